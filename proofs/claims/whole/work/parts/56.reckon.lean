set_option maxRecDepth 100000 in
set_option maxHeartbeats 4000000 in
theorem c_X7_reckon (l : Launch) (D : va_G) (d : Nat → ClassId) (o : Nat) (t : Nat) (z : Nat) (q : Nat → Nat) (qt : Nat → Nat) (qz : Nat → Nat) (f : Nat → Int) (ft : Nat → Int) (fz : Nat → Int) (rw : Nat → Option Nat) (ra : Nat → Nat) (L0 : Int → Int) (L1 : Int → Int) (L2 : Int → Int) (L3 : Int → Int) (L4 : Int → Int) (L5 : Int → Int) (L6 : Int → Int) (X : Int → Int) (T1 : Int → Int) (T3 : Int → Int) (T4 : Int → Int) (A0 : Int → Int) (A1 : Int → Int) (c : Int) (g : Int) (hP : 0 ≤ ft 6 ∧ ft 6 ≤ 6) (hC : 0 ≤ c ∧ c < 4) (hg : 1 ≤ g ∧ g ≤ 999) (hT1 : bd T1 0 99) (hT3 : bd T3 0 15) (hT4 : bd T4 0 99) (hA0 : bd A0 0 99) (hA1 : bd A1 0 9999) (hU : ∀ j : Int, 0 ≤ j ∧ j < ft 6 → 1 ≤ A0 j) (hr : ∀ j : Nat, j < 7 → rw j = some (ra j)) : CU l yX7_reckon cX7_reckon 6 (some .boolean) 2 53 D d [.ref o, .ref t, .ref z, .int (iI c), .int (iI g)] [(o, .inr (7, fX7 q f)), (q 0, aR (d 3) 7 rw), (ra 0, aI (d 0) 1098 L0), (ra 1, aI (d 0) 1098 L1), (ra 2, aI (d 0) 1098 L2), (ra 3, aI (d 0) 1098 L3), (ra 4, aI (d 0) 1098 L4), (ra 5, aI (d 0) 1098 L5), (ra 6, aI (d 0) 1098 L6), (q 1, aI (d 0) 1098 X), (t, .inr (6, fX6 qt ft)), (qt 1, aI (d 0) 6 T1), (qt 3, aI (d 0) 6 T3), (qt 4, aI (d 0) 4 T4), (z, .inr (5, fX5 qz fz)), (qz 0, aI (d 0) 6 A0), (qz 1, aI (d 0) 4 A1)] (fun (u : Int × (Nat → Int → Int) × (Int → Int)) => rkP A0 T1 (fun x => bitI (T3 x) c) (T4 c * 64) (ft 6) (min (A1 c) (g + 98)) g u.2.1 u.1 ∧ 0 ≤ u.1 ∧ u.1 ≤ 1000000000) (fun (u : Int × (Nat → Int → Int) × (Int → Int)) => some (.int (iI (bI (u.1 < 1000000000))))) (fun (u : Int × (Nat → Int → Int) × (Int → Int)) => [(o, .inr (7, fX7 q (up (up f 3 (min (A1 c) (g + 98))) 4 u.1))), (q 0, aR (d 3) 7 rw), (ra 0, aI (d 0) 1098 (u.2.1 0)), (ra 1, aI (d 0) 1098 (u.2.1 1)), (ra 2, aI (d 0) 1098 (u.2.1 2)), (ra 3, aI (d 0) 1098 (u.2.1 3)), (ra 4, aI (d 0) 1098 (u.2.1 4)), (ra 5, aI (d 0) 1098 (u.2.1 5)), (ra 6, aI (d 0) 1098 (u.2.1 6)), (q 1, aI (d 0) 1098 u.2.2), (t, .inr (6, fX6 qt ft)), (qt 1, aI (d 0) 6 T1), (qt 3, aI (d 0) 6 T3), (qt 4, aI (d 0) 4 T4), (z, .inr (5, fX5 qz fz)), (qz 0, aI (d 0) 6 A0), (qz 1, aI (d 0) 4 A1)]) := by
  refine CU.mk (own := RX7) (lv := [(0, .ref o), (1, .ref t), (2, .ref z), (3, .int (iI c)), (4, .int (iI g))]) rfl (by decide) (Nat.le_of_ble_eq_true rfl) rfl ?_
  intro p9 e9 R9 s9 m9 args9 below9 meth9 c9 A9 Q9 hRf hRl C Z
  have L140 : ∀ (nn9 : Nat) (b : Int) (g3 : Int) (W : Int) (L0 : Int → Int) (L1 : Int → Int) (L2 : Int → Int) (L3 : Int → Int) (L4 : Int → Int) (L5 : Int → Int) (L6 : Int → Int) (X : Int → Int), (g ≤ b ∧ (b ≤ g3 + 1 ∨ b = g)) → (g3 = min (A1 c) (g + 98)) → (rwT A0 (hrI T1) (fun x => bitI (T3 x) c) (T4 c * 64) (ft 6) (ft 6 - 0).toNat g3 L0) → (1 ≤ ft 6 → rwT A0 (hrI T1) (fun x => bitI (T3 x) c) (T4 c * 64) (ft 6) (ft 6 - 1).toNat g3 L1) → (2 ≤ ft 6 → rwT A0 (hrI T1) (fun x => bitI (T3 x) c) (T4 c * 64) (ft 6) (ft 6 - 2).toNat g3 L2) → (3 ≤ ft 6 → rwT A0 (hrI T1) (fun x => bitI (T3 x) c) (T4 c * 64) (ft 6) (ft 6 - 3).toNat g3 L3) → (4 ≤ ft 6 → rwT A0 (hrI T1) (fun x => bitI (T3 x) c) (T4 c * 64) (ft 6) (ft 6 - 4).toNat g3 L4) → (5 ≤ ft 6 → rwT A0 (hrI T1) (fun x => bitI (T3 x) c) (T4 c * 64) (ft 6) (ft 6 - 5).toNat g3 L5) → (6 ≤ ft 6 → rwT A0 (hrI T1) (fun x => bitI (T3 x) c) (T4 c * 64) (ft 6) (ft 6 - 6).toNat g3 L6) → (rkW L0 g b W) → (g3 + 1 - b).toNat < nn9 → V p9 l e9 R9 s9 m9 args9 below9 meth9 c9 A9 D Q9 6 0 0 [(o, .inr (7, fX7 q (up (up f 3 g3) 4 W))), (q 0, aR (d 3) 7 rw), (ra 0, aI (d 0) 1098 L0), (ra 1, aI (d 0) 1098 L1), (ra 2, aI (d 0) 1098 L2), (ra 3, aI (d 0) 1098 L3), (ra 4, aI (d 0) 1098 L4), (ra 5, aI (d 0) 1098 L5), (ra 6, aI (d 0) 1098 L6), (q 1, aI (d 0) 1098 X), (t, .inr (6, fX6 qt ft)), (qt 1, aI (d 0) 6 T1), (qt 3, aI (d 0) 6 T3), (qt 4, aI (d 0) 4 T4), (z, .inr (5, fX5 qz fz)), (qz 0, aI (d 0) 6 A0), (qz 1, aI (d 0) 4 A1)] [(5, .int (iI b)), (0, .ref o), (1, .ref t), (2, .ref z), (3, .int (iI c)), (4, .int (iI g))] 140 [] := by
    intro nn9
    induction nn9 with
    | zero => intro _ _ _ _ _ _ _ _ _ _ _ _ _ _ _ _ _ _ _ _ _ hm140; exact absurd hm140 (Nat.not_lt_zero _)
    | succ nn9 ih140 =>
      intro b g3 W L0 L1 L2 L3 L4 L5 L6 X hb h3 r0 r1 r2 r3 r4 r5 r6 hW hm140
      have a19 := hA1 c
      have t49 := hT4 c
      have W0 := hW.1
      refine V_iload (pc := 140) C dX7_reckon_140 0 rfl ?_
      refine V_aload_n (pc := 142) C dX7_reckon_142 rfl 1 rfl ?_
      refine gf_X7_34 (x := g3) (pc := 143) C dX7_reckon_143 0 rfl rfl ?_
      refine V_icmp_gt (pc := 146) 175 C dX7_reckon_146 (by decide) (sm_i (by omega)) (sm_i (by omega)) (fun c146 => ?_) (fun c146 => ?_)
      · refine V_aload_n (pc := 175) C dX7_reckon_175 rfl 1 rfl ?_
        refine gf_X7_73 (x := W) (pc := 176) C dX7_reckon_176 0 rfl rfl ?_
        refine V_ldc (n := 1000000000) (pc := 179) C dX7_reckon_179 w2_218 rfl ?_
        refine V_icmp_ge (pc := 181) 188 C dX7_reckon_181 (by decide) (sm_i (by omega)) (sm_i (by decide)) (fun c181 => ?_) (fun c181 => ?_)
        · refine V_iconst (pc := 188) C dX7_reckon_188 ?_
          exact V_zret (pc := 189) C Z dX7_reckon_189 (Or.inl rfl) (W, rwF L0 L1 L2 L3 L4 L5 L6, X) (⟨⟨rk_all hP (h3 ▸ r0) (fun q => h3 ▸ r1 q) (fun q => h3 ▸ r2 q) (fun q => h3 ▸ r3 q) (fun q => h3 ▸ r4 q) (fun q => h3 ▸ r5 q) (fun q => h3 ▸ r6 q), fun q => by have e : b = min (A1 c) (g + 98) + 1 := (by omega); rw [← e]; exact hW, fun q => by have e : b = g := (by omega); exact rkW_n (e ▸ hW)⟩, W0⟩) (ri (by first | exact (bI_t (show W < 1000000000 by omega)).symm | exact (bI_f (show ¬ W < 1000000000 by omega)).symm | exact bI_t (show W < 1000000000 by omega) | exact bI_f (show ¬ W < 1000000000 by omega))) (by rw [h3]; rfl)
        · refine V_iconst (pc := 184) C dX7_reckon_184 ?_
          refine V_goto (pc := 185) 189 C dX7_reckon_185 (by decide) ?_
          exact V_zret (pc := 189) C Z dX7_reckon_189 (Or.inr rfl) (W, rwF L0 L1 L2 L3 L4 L5 L6, X) (⟨⟨rk_all hP (h3 ▸ r0) (fun q => h3 ▸ r1 q) (fun q => h3 ▸ r2 q) (fun q => h3 ▸ r3 q) (fun q => h3 ▸ r4 q) (fun q => h3 ▸ r5 q) (fun q => h3 ▸ r6 q), fun q => by have e : b = min (A1 c) (g + 98) + 1 := (by omega); rw [← e]; exact hW, fun q => by have e : b = g := (by omega); exact rkW_n (e ▸ hW)⟩, W0⟩) (ri (by first | exact (bI_t (show W < 1000000000 by omega)).symm | exact (bI_f (show ¬ W < 1000000000 by omega)).symm | exact bI_t (show W < 1000000000 by omega) | exact bI_f (show ¬ W < 1000000000 by omega))) (by rw [h3]; rfl)
      · have q9 := r0 b (by omega)
        have q0 := mnT_ge0 (fun j => (hrI_b hT1 j).1) (by omega) q9
        have q1 := q9.1
        refine V_aload_n (pc := 149) C dX7_reckon_149 rfl 1 rfl ?_
        refine V_aload_n (pc := 150) C dX7_reckon_150 rfl 1 rfl ?_
        refine gf_X7_73 (x := W) (pc := 151) C dX7_reckon_151 0 rfl rfl ?_
        refine V_aload_n (pc := 154) C dX7_reckon_154 rfl 1 rfl ?_
        refine gf_X7_13 (x := q 0) (pc := 155) C dX7_reckon_155 0 rfl rfl ?_
        refine V_iconst (pc := 158) C dX7_reckon_158 ?_
        refine V_aald (k := 3) (x := ra 0) (f := rw) (Or.inr rfl) (pc := 159) C dX7_reckon_159 1 rfl (by decide) (by decide) (hr 0 (by decide)) (Nat.le_of_ble_eq_true rfl) ?_
        refine V_iload (pc := 160) C dX7_reckon_160 0 rfl ?_
        refine V_iald (f := L0) (pc := 162) C dX7_reckon_162 2 rfl (by omega) (by omega) (Nat.le_of_ble_eq_true rfl) ?_
        refine mm_X7_28 (pc := 163) C dX7_reckon_163 (sm_i (by omega)) (sm_i (by omega)) (by omega) (by show _ ≤ R9.locals; rw [hRl]; exact Nat.le_of_ble_eq_true rfl) (Nat.zero_le _) (Nat.zero_le _) ?_
        refine pf_X7_73 (ws' := [(o, .inr (7, fX7 q (up (up (up f 3 g3) 4 W) 4 (min W (L0 b))))), (q 0, aR (d 3) 7 rw), (ra 0, aI (d 0) 1098 L0), (ra 1, aI (d 0) 1098 L1), (ra 2, aI (d 0) 1098 L2), (ra 3, aI (d 0) 1098 L3), (ra 4, aI (d 0) 1098 L4), (ra 5, aI (d 0) 1098 L5), (ra 6, aI (d 0) 1098 L6), (q 1, aI (d 0) 1098 X), (t, .inr (6, fX6 qt ft)), (qt 1, aI (d 0) 6 T1), (qt 3, aI (d 0) 6 T3), (qt 4, aI (d 0) 4 T4), (z, .inr (5, fX5 qz fz)), (qz 0, aI (d 0) 6 A0), (qz 1, aI (d 0) 4 A1)]) (pc := 166) C dX7_reckon_166 0 rfl rfl ?_
        refine V_iinc (lv' := [(5, .int (iI (b + 1))), (0, .ref o), (1, .ref t), (2, .ref z), (3, .int (iI c)), (4, .int (iI g))]) (pc := 169) C dX7_reckon_169 0 rfl (by decide) rfl ?_
        refine V_goto (pc := 172) 140 C dX7_reckon_172 (by decide) ?_
        exact V_sub [0, 1, 2, 3, 4, 5] rfl (ih140 (b + 1) g3 (min W (L0 b)) L0 L1 L2 L3 L4 L5 L6 X (by omega) (by omega) (r0) (r1) (r2) (r3) (r4) (r5) (r6) (rkW_s hW q0 hb.1) (by omega))
  have L54 : ∀ (nn9 : Nat) (i : Int) (g3 : Int) (L0 : Int → Int) (L1 : Int → Int) (L2 : Int → Int) (L3 : Int → Int) (L4 : Int → Int) (L5 : Int → Int) (L6 : Int → Int) (X : Int → Int), (-1 ≤ i ∧ i < ft 6) → (g3 = min (A1 c) (g + 98)) → (i < 0 ∧ 0 ≤ ft 6 → rwT A0 (hrI T1) (fun x => bitI (T3 x) c) (T4 c * 64) (ft 6) (ft 6 - 0).toNat g3 L0) → (i < 1 ∧ 1 ≤ ft 6 → rwT A0 (hrI T1) (fun x => bitI (T3 x) c) (T4 c * 64) (ft 6) (ft 6 - 1).toNat g3 L1) → (i < 2 ∧ 2 ≤ ft 6 → rwT A0 (hrI T1) (fun x => bitI (T3 x) c) (T4 c * 64) (ft 6) (ft 6 - 2).toNat g3 L2) → (i < 3 ∧ 3 ≤ ft 6 → rwT A0 (hrI T1) (fun x => bitI (T3 x) c) (T4 c * 64) (ft 6) (ft 6 - 3).toNat g3 L3) → (i < 4 ∧ 4 ≤ ft 6 → rwT A0 (hrI T1) (fun x => bitI (T3 x) c) (T4 c * 64) (ft 6) (ft 6 - 4).toNat g3 L4) → (i < 5 ∧ 5 ≤ ft 6 → rwT A0 (hrI T1) (fun x => bitI (T3 x) c) (T4 c * 64) (ft 6) (ft 6 - 5).toNat g3 L5) → (i < 6 ∧ 6 ≤ ft 6 → rwT A0 (hrI T1) (fun x => bitI (T3 x) c) (T4 c * 64) (ft 6) (ft 6 - 6).toNat g3 L6) → (i + 1).toNat < nn9 → V p9 l e9 R9 s9 m9 args9 below9 meth9 c9 A9 D Q9 6 0 0 [(o, .inr (7, fX7 q (up f 3 g3))), (q 0, aR (d 3) 7 rw), (ra 0, aI (d 0) 1098 L0), (ra 1, aI (d 0) 1098 L1), (ra 2, aI (d 0) 1098 L2), (ra 3, aI (d 0) 1098 L3), (ra 4, aI (d 0) 1098 L4), (ra 5, aI (d 0) 1098 L5), (ra 6, aI (d 0) 1098 L6), (q 1, aI (d 0) 1098 X), (t, .inr (6, fX6 qt ft)), (qt 1, aI (d 0) 6 T1), (qt 3, aI (d 0) 6 T3), (qt 4, aI (d 0) 4 T4), (z, .inr (5, fX5 qz fz)), (qz 0, aI (d 0) 6 A0), (qz 1, aI (d 0) 4 A1)] [(5, .int (iI i)), (0, .ref o), (1, .ref t), (2, .ref z), (3, .int (iI c)), (4, .int (iI g))] 54 [] := by
    intro nn9
    induction nn9 with
    | zero => intro _ _ _ _ _ _ _ _ _ _ _ _ _ _ _ _ _ _ _ hm54; exact absurd hm54 (Nat.not_lt_zero _)
    | succ nn9 ih54 =>
      intro i g3 L0 L1 L2 L3 L4 L5 L6 X hi h3 r0 r1 r2 r3 r4 r5 r6 hm54
      have a19 := hA1 c
      have t49 := hT4 c
      refine V_iload (pc := 54) C dX7_reckon_54 0 rfl ?_
      refine V_if_lt (pc := 56) 130 C dX7_reckon_56 (by decide) (sm_i (by omega)) (fun c56 => ?_) (fun c56 => ?_)
      · refine V_aload_n (pc := 130) C dX7_reckon_130 rfl 1 rfl ?_
        refine V_ldc (n := 1000000000) (pc := 131) C dX7_reckon_131 w2_218 rfl ?_
        refine pf_X7_73 (ws' := [(o, .inr (7, fX7 q (up (up f 3 g3) 4 1000000000))), (q 0, aR (d 3) 7 rw), (ra 0, aI (d 0) 1098 L0), (ra 1, aI (d 0) 1098 L1), (ra 2, aI (d 0) 1098 L2), (ra 3, aI (d 0) 1098 L3), (ra 4, aI (d 0) 1098 L4), (ra 5, aI (d 0) 1098 L5), (ra 6, aI (d 0) 1098 L6), (q 1, aI (d 0) 1098 X), (t, .inr (6, fX6 qt ft)), (qt 1, aI (d 0) 6 T1), (qt 3, aI (d 0) 6 T3), (qt 4, aI (d 0) 4 T4), (z, .inr (5, fX5 qz fz)), (qz 0, aI (d 0) 6 A0), (qz 1, aI (d 0) 4 A1)]) (pc := 133) C dX7_reckon_133 0 rfl rfl ?_
        refine V_iload (pc := 136) C dX7_reckon_136 5 rfl ?_
        refine V_istore (lv' := [(5, .int (iI g)), (0, .ref o), (1, .ref t), (2, .ref z), (3, .int (iI c)), (4, .int (iI g))]) (pc := 138) C dX7_reckon_138 (by decide) rfl ?_
        exact V_sub [0, 1, 2, 3, 4, 5] rfl (L140 ((g3 + 1 - g).toNat + 1) g g3 1000000000 L0 L1 L2 L3 L4 L5 L6 X (by omega) (by omega) (r0 ⟨by omega, by omega⟩) (fun h => r1 ⟨by omega, h⟩) (fun h => r2 ⟨by omega, h⟩) (fun h => r3 ⟨by omega, h⟩) (fun h => r4 ⟨by omega, h⟩) (fun h => r5 ⟨by omega, h⟩) (fun h => r6 ⟨by omega, h⟩) (rkW_0) (Nat.lt_succ_self _))
      · rcases (show i = 0 ∨ i = 1 ∨ i = 2 ∨ i = 3 ∨ i = 4 ∨ i = 5 by omega) with rfl | rfl | rfl | rfl | rfl | rfl
        · refine V_aload_n (pc := 59) C dX7_reckon_59 rfl 2 rfl ?_
          refine V_iload (pc := 60) C dX7_reckon_60 0 rfl ?_
          refine V_iload_n (pc := 62) C dX7_reckon_62 rfl 4 rfl ?_
          refine cv_X7_50 (pc := 63) (rest := []) (wn := fun _ => [(o, .inr (7, fX7 q (up f 3 g3))), (q 0, aR (d 3) 7 rw), (ra 0, aI (d 0) 1098 L0), (ra 1, aI (d 0) 1098 L1), (ra 2, aI (d 0) 1098 L2), (ra 3, aI (d 0) 1098 L3), (ra 4, aI (d 0) 1098 L4), (ra 5, aI (d 0) 1098 L5), (ra 6, aI (d 0) 1098 L6), (q 1, aI (d 0) 1098 X), (t, .inr (6, fX6 qt ft)), (qt 1, aI (d 0) 6 T1), (qt 3, aI (d 0) 6 T3), (qt 4, aI (d 0) 4 T4), (z, .inr (5, fX5 qz fz)), (qz 0, aI (d 0) 6 A0), (qz 1, aI (d 0) 4 A1)]) (sn := fun _ => [.int (iI (bI (T3 0 / 2 ^ c.toNat % 2 = 1)))]) C dX7_reckon_63 (c_X6_bars l D d t qt ft 0 c T3 (show 0 ≤ 0 ∧ 0 < 6 by omega) hC hT3) [10, 12] rfl rfl 10 rfl rfl rfl (Nat.le_of_ble_eq_true rfl) ⟨by omega, by omega⟩ ⟨Nat.zero_le _, Nat.zero_le _⟩ (fun _ => rfl) (fun _ => rfl) (fun _ => rfl) ?_
          intro _ _
          refine V_ifb_eq (pc := 66) 96 C dX7_reckon_66 (by decide) (fun c66 => ?_) (fun c66 => ?_)
          · refine V_aload_n (pc := 96) C dX7_reckon_96 rfl 1 rfl ?_
            refine V_iload (pc := 97) C dX7_reckon_97 0 rfl ?_
            refine V_aload_n (pc := 99) C dX7_reckon_99 rfl 3 rfl ?_
            refine gf_X7_60 (x := qz 0) (pc := 100) C dX7_reckon_100 14 rfl rfl ?_
            refine V_iload (pc := 103) C dX7_reckon_103 0 rfl ?_
            refine V_iald (f := A0) (pc := 105) C dX7_reckon_105 15 rfl (by omega) (by omega) (Nat.le_of_ble_eq_true rfl) ?_
            have b105 := hA0 0
            refine V_aload_n (pc := 106) C dX7_reckon_106 rfl 2 rfl ?_
            refine V_iload (pc := 107) C dX7_reckon_107 0 rfl ?_
            refine cs_X7_63 (pc := 109) (rest := [.int (iI (A0 0)), .int (iI 0), .ref o]) (wn := fun _ => [(o, .inr (7, fX7 q (up f 3 g3))), (q 0, aR (d 3) 7 rw), (ra 0, aI (d 0) 1098 L0), (ra 1, aI (d 0) 1098 L1), (ra 2, aI (d 0) 1098 L2), (ra 3, aI (d 0) 1098 L3), (ra 4, aI (d 0) 1098 L4), (ra 5, aI (d 0) 1098 L5), (ra 6, aI (d 0) 1098 L6), (q 1, aI (d 0) 1098 X), (t, .inr (6, fX6 qt ft)), (qt 1, aI (d 0) 6 T1), (qt 3, aI (d 0) 6 T3), (qt 4, aI (d 0) 4 T4), (z, .inr (5, fX5 qz fz)), (qz 0, aI (d 0) 6 A0), (qz 1, aI (d 0) 4 A1)]) (sn := fun _ => [.int (iI (T1 0 * 64 + 2 ^ Int.toNat 0)), .int (iI (A0 0)), .int (iI 0), .ref o]) C dX7_reckon_109 (c_X7_hire l D d t qt ft T1 0 (show 0 ≤ 0 ∧ 0 < 6 by omega)) [10, 11] rfl rfl rfl rfl (Nat.le_of_ble_eq_true rfl) ⟨by omega, by omega⟩ ⟨Nat.zero_le _, Nat.zero_le _⟩ (fun _ => rfl) (fun _ => rfl) (fun _ => rfl) ?_
            intro _ _
            refine V_aload_n (pc := 112) C dX7_reckon_112 rfl 2 rfl ?_
            refine gf_X7_67 (x := qt 4) (pc := 113) C dX7_reckon_113 10 rfl rfl ?_
            refine V_iload_n (pc := 116) C dX7_reckon_116 rfl 4 rfl ?_
            refine V_iald (f := T4) (pc := 117) C dX7_reckon_117 13 rfl (by omega) (by omega) (Nat.le_of_ble_eq_true rfl) ?_
            have b117 := hT4 c
            refine V_bipush (pc := 118) C dX7_reckon_118 rfl ?_
            refine V_imul (pc := 120) C dX7_reckon_120 ?_
            refine cv_X7_70 (pc := 121) (rest := []) (wn := fun u => [(o, .inr (7, fX7 q (up f 3 g3))), (q 0, aR (d 3) 7 rw), (ra 0, aI (d 0) 1098 u.1), (ra 1, aI (d 0) 1098 L1), (ra 2, aI (d 0) 1098 L2), (ra 3, aI (d 0) 1098 L3), (ra 4, aI (d 0) 1098 L4), (ra 5, aI (d 0) 1098 L5), (ra 6, aI (d 0) 1098 L6), (q 1, aI (d 0) 1098 u.2), (t, .inr (6, fX6 qt ft)), (qt 1, aI (d 0) 6 T1), (qt 3, aI (d 0) 6 T3), (qt 4, aI (d 0) 4 T4), (z, .inr (5, fX5 qz fz)), (qz 0, aI (d 0) 6 A0), (qz 1, aI (d 0) 4 A1)]) (sn := fun u => []) C dX7_reckon_121 (c_X7_fill l D d o q (up f 3 g3) rw (ra 0) (ra 1) ((ft 6 - 1).toNat) L0 L1 X A0 (hrI T1) (fun x => bitI (T3 x) c) (ft 6) ((T4 c) * 64) 0 (A0 0) (T1 0 * 64 + 2 ^ Int.toNat 0) (fun j => (hA0 j).1) (hrI_b hT1) (show 0 ≤ ((T4 c) * 64) ∧ ((T4 c) * 64) ≤ 6336 by omega) (show 0 ≤ 0 ∧ 0 < 6 by omega) (hr 0 (by decide)) (hr 1 (by decide)) (show 0 ≤ g3 ∧ g3 ≤ 1097 by omega) (show (ft 6) - (((ft 6 - 1).toNat) : Int) - 1 = 0 by omega) rfl (hrI_in (by decide)) (by show ¬ bitI (T3 0) c = 1; unfold bitI; omega) (by have q1 := hU 0 (by omega); have q2 := hA0 0; omega) (r1 ⟨by omega, by omega⟩)) [0, 1, 2, 3, 9] rfl rfl 0 rfl rfl rfl (Nat.le_of_ble_eq_true rfl) ⟨by omega, by omega⟩ ⟨Nat.zero_le _, Nat.zero_le _⟩ (fun u => rfl) (fun u => rfl) (fun u => rfl) ?_
            rintro ⟨G, X9⟩ hu
            refine V_iinc (lv' := [(5, .int (iI (-1))), (0, .ref o), (1, .ref t), (2, .ref z), (3, .int (iI c)), (4, .int (iI g))]) (pc := 124) C dX7_reckon_124 0 rfl (by decide) rfl ?_
            refine V_goto (pc := 127) 54 C dX7_reckon_127 (by decide) ?_
            exact V_sub [0, 1, 2, 3, 4, 5] rfl (ih54 (-1) g3 G L1 L2 L3 L4 L5 L6 X9 (by omega) (by omega) (fun h => by first | exact rwT_e (by omega) hu | exact rwT_bar (k := (ft 6 - 1).toNat) (by omega) (by rw [show ft 6 - ((ft 6 - 1).toNat : Int) - 1 = 0 by omega]; show bitI (T3 0) c = 1; unfold bitI; omega) (r1 ⟨by omega, by omega⟩) (by omega)) (fun h => r1 ⟨by omega, h.2⟩) (fun h => r2 ⟨by omega, h.2⟩) (fun h => r3 ⟨by omega, h.2⟩) (fun h => r4 ⟨by omega, h.2⟩) (fun h => r5 ⟨by omega, h.2⟩) (fun h => r6 ⟨by omega, h.2⟩) (by omega))
          · refine V_aload_n (pc := 69) C dX7_reckon_69 rfl 1 rfl ?_
            refine gf_X7_13 (x := q 0) (pc := 70) C dX7_reckon_70 0 rfl rfl ?_
            refine V_iload (pc := 73) C dX7_reckon_73 0 rfl ?_
            refine V_iconst (pc := 75) C dX7_reckon_75 ?_
            refine V_iadd (pc := 76) C dX7_reckon_76 ?_
            refine V_eqt (y := 1) (by decide) ?_
            refine V_aald (k := 3) (x := ra 1) (f := rw) (Or.inr rfl) (pc := 77) C dX7_reckon_77 1 rfl (by decide) (by decide) (hr 1 (by decide)) (Nat.le_of_ble_eq_true rfl) ?_
            refine V_iconst (pc := 78) C dX7_reckon_78 ?_
            refine V_aload_n (pc := 79) C dX7_reckon_79 rfl 1 rfl ?_
            refine gf_X7_13 (x := q 0) (pc := 80) C dX7_reckon_80 0 rfl rfl ?_
            refine V_iload (pc := 83) C dX7_reckon_83 0 rfl ?_
            refine V_aald (k := 3) (x := ra 0) (f := rw) (Or.inr rfl) (pc := 85) C dX7_reckon_85 1 rfl (by decide) (by decide) (hr 0 (by decide)) (Nat.le_of_ble_eq_true rfl) ?_
            refine V_iconst (pc := 86) C dX7_reckon_86 ?_
            refine V_sipush (pc := 87) C dX7_reckon_87 rfl ?_
            refine ac_X7_54 (pc := 90) (f := L1) (g := L0) (ws' := [(o, .inr (7, fX7 q (up f 3 g3))), (q 0, aR (d 3) 7 rw), (ra 0, aI (d 0) 1098 (cpI L1 L0 1098)), (ra 1, aI (d 0) 1098 L1), (ra 2, aI (d 0) 1098 L2), (ra 3, aI (d 0) 1098 L3), (ra 4, aI (d 0) 1098 L4), (ra 5, aI (d 0) 1098 L5), (ra 6, aI (d 0) 1098 L6), (q 1, aI (d 0) 1098 X), (t, .inr (6, fX6 qt ft)), (qt 1, aI (d 0) 6 T1), (qt 3, aI (d 0) 6 T3), (qt 4, aI (d 0) 4 T4), (z, .inr (5, fX5 qz fz)), (qz 0, aI (d 0) 6 A0), (qz 1, aI (d 0) 4 A1)]) C dX7_reckon_90 3 2 rfl rfl (by decide) (by decide) (by decide) (by omega) (by show _ ≤ R9.locals; rw [hRl]; exact Nat.le_of_ble_eq_true rfl) rfl ?_
            refine V_goto (pc := 93) 124 C dX7_reckon_93 (by decide) ?_
            refine V_iinc (lv' := [(5, .int (iI (-1))), (0, .ref o), (1, .ref t), (2, .ref z), (3, .int (iI c)), (4, .int (iI g))]) (pc := 124) C dX7_reckon_124 0 rfl (by decide) rfl ?_
            refine V_goto (pc := 127) 54 C dX7_reckon_127 (by decide) ?_
            exact V_sub [0, 1, 2, 3, 4, 5] rfl (ih54 (-1) g3 (cpI L1 L0 1098) L1 L2 L3 L4 L5 L6 X (by omega) (by omega) (fun h => by first | exact rwT_e (by omega) hu | exact rwT_bar (k := (ft 6 - 1).toNat) (by omega) (by rw [show ft 6 - ((ft 6 - 1).toNat : Int) - 1 = 0 by omega]; show bitI (T3 0) c = 1; unfold bitI; omega) (r1 ⟨by omega, by omega⟩) (by omega)) (fun h => r1 ⟨by omega, h.2⟩) (fun h => r2 ⟨by omega, h.2⟩) (fun h => r3 ⟨by omega, h.2⟩) (fun h => r4 ⟨by omega, h.2⟩) (fun h => r5 ⟨by omega, h.2⟩) (fun h => r6 ⟨by omega, h.2⟩) (by omega))
        · refine V_aload_n (pc := 59) C dX7_reckon_59 rfl 2 rfl ?_
          refine V_iload (pc := 60) C dX7_reckon_60 0 rfl ?_
          refine V_iload_n (pc := 62) C dX7_reckon_62 rfl 4 rfl ?_
          refine cv_X7_50 (pc := 63) (rest := []) (wn := fun _ => [(o, .inr (7, fX7 q (up f 3 g3))), (q 0, aR (d 3) 7 rw), (ra 0, aI (d 0) 1098 L0), (ra 1, aI (d 0) 1098 L1), (ra 2, aI (d 0) 1098 L2), (ra 3, aI (d 0) 1098 L3), (ra 4, aI (d 0) 1098 L4), (ra 5, aI (d 0) 1098 L5), (ra 6, aI (d 0) 1098 L6), (q 1, aI (d 0) 1098 X), (t, .inr (6, fX6 qt ft)), (qt 1, aI (d 0) 6 T1), (qt 3, aI (d 0) 6 T3), (qt 4, aI (d 0) 4 T4), (z, .inr (5, fX5 qz fz)), (qz 0, aI (d 0) 6 A0), (qz 1, aI (d 0) 4 A1)]) (sn := fun _ => [.int (iI (bI (T3 1 / 2 ^ c.toNat % 2 = 1)))]) C dX7_reckon_63 (c_X6_bars l D d t qt ft 1 c T3 (show 0 ≤ 1 ∧ 1 < 6 by omega) hC hT3) [10, 12] rfl rfl 10 rfl rfl rfl (Nat.le_of_ble_eq_true rfl) ⟨by omega, by omega⟩ ⟨Nat.zero_le _, Nat.zero_le _⟩ (fun _ => rfl) (fun _ => rfl) (fun _ => rfl) ?_
          intro _ _
          refine V_ifb_eq (pc := 66) 96 C dX7_reckon_66 (by decide) (fun c66 => ?_) (fun c66 => ?_)
          · refine V_aload_n (pc := 96) C dX7_reckon_96 rfl 1 rfl ?_
            refine V_iload (pc := 97) C dX7_reckon_97 0 rfl ?_
            refine V_aload_n (pc := 99) C dX7_reckon_99 rfl 3 rfl ?_
            refine gf_X7_60 (x := qz 0) (pc := 100) C dX7_reckon_100 14 rfl rfl ?_
            refine V_iload (pc := 103) C dX7_reckon_103 0 rfl ?_
            refine V_iald (f := A0) (pc := 105) C dX7_reckon_105 15 rfl (by omega) (by omega) (Nat.le_of_ble_eq_true rfl) ?_
            have b105 := hA0 1
            refine V_aload_n (pc := 106) C dX7_reckon_106 rfl 2 rfl ?_
            refine V_iload (pc := 107) C dX7_reckon_107 0 rfl ?_
            refine cs_X7_63 (pc := 109) (rest := [.int (iI (A0 1)), .int (iI 1), .ref o]) (wn := fun _ => [(o, .inr (7, fX7 q (up f 3 g3))), (q 0, aR (d 3) 7 rw), (ra 0, aI (d 0) 1098 L0), (ra 1, aI (d 0) 1098 L1), (ra 2, aI (d 0) 1098 L2), (ra 3, aI (d 0) 1098 L3), (ra 4, aI (d 0) 1098 L4), (ra 5, aI (d 0) 1098 L5), (ra 6, aI (d 0) 1098 L6), (q 1, aI (d 0) 1098 X), (t, .inr (6, fX6 qt ft)), (qt 1, aI (d 0) 6 T1), (qt 3, aI (d 0) 6 T3), (qt 4, aI (d 0) 4 T4), (z, .inr (5, fX5 qz fz)), (qz 0, aI (d 0) 6 A0), (qz 1, aI (d 0) 4 A1)]) (sn := fun _ => [.int (iI (T1 1 * 64 + 2 ^ Int.toNat 1)), .int (iI (A0 1)), .int (iI 1), .ref o]) C dX7_reckon_109 (c_X7_hire l D d t qt ft T1 1 (show 0 ≤ 1 ∧ 1 < 6 by omega)) [10, 11] rfl rfl rfl rfl (Nat.le_of_ble_eq_true rfl) ⟨by omega, by omega⟩ ⟨Nat.zero_le _, Nat.zero_le _⟩ (fun _ => rfl) (fun _ => rfl) (fun _ => rfl) ?_
            intro _ _
            refine V_aload_n (pc := 112) C dX7_reckon_112 rfl 2 rfl ?_
            refine gf_X7_67 (x := qt 4) (pc := 113) C dX7_reckon_113 10 rfl rfl ?_
            refine V_iload_n (pc := 116) C dX7_reckon_116 rfl 4 rfl ?_
            refine V_iald (f := T4) (pc := 117) C dX7_reckon_117 13 rfl (by omega) (by omega) (Nat.le_of_ble_eq_true rfl) ?_
            have b117 := hT4 c
            refine V_bipush (pc := 118) C dX7_reckon_118 rfl ?_
            refine V_imul (pc := 120) C dX7_reckon_120 ?_
            refine cv_X7_70 (pc := 121) (rest := []) (wn := fun u => [(o, .inr (7, fX7 q (up f 3 g3))), (q 0, aR (d 3) 7 rw), (ra 0, aI (d 0) 1098 L0), (ra 1, aI (d 0) 1098 u.1), (ra 2, aI (d 0) 1098 L2), (ra 3, aI (d 0) 1098 L3), (ra 4, aI (d 0) 1098 L4), (ra 5, aI (d 0) 1098 L5), (ra 6, aI (d 0) 1098 L6), (q 1, aI (d 0) 1098 u.2), (t, .inr (6, fX6 qt ft)), (qt 1, aI (d 0) 6 T1), (qt 3, aI (d 0) 6 T3), (qt 4, aI (d 0) 4 T4), (z, .inr (5, fX5 qz fz)), (qz 0, aI (d 0) 6 A0), (qz 1, aI (d 0) 4 A1)]) (sn := fun u => []) C dX7_reckon_121 (c_X7_fill l D d o q (up f 3 g3) rw (ra 1) (ra 2) ((ft 6 - 2).toNat) L1 L2 X A0 (hrI T1) (fun x => bitI (T3 x) c) (ft 6) ((T4 c) * 64) 1 (A0 1) (T1 1 * 64 + 2 ^ Int.toNat 1) (fun j => (hA0 j).1) (hrI_b hT1) (show 0 ≤ ((T4 c) * 64) ∧ ((T4 c) * 64) ≤ 6336 by omega) (show 0 ≤ 1 ∧ 1 < 6 by omega) (hr 1 (by decide)) (hr 2 (by decide)) (show 0 ≤ g3 ∧ g3 ≤ 1097 by omega) (show (ft 6) - (((ft 6 - 2).toNat) : Int) - 1 = 1 by omega) rfl (hrI_in (by decide)) (by show ¬ bitI (T3 1) c = 1; unfold bitI; omega) (by have q1 := hU 1 (by omega); have q2 := hA0 1; omega) (r2 ⟨by omega, by omega⟩)) [0, 1, 3, 4, 9] rfl rfl 0 rfl rfl rfl (Nat.le_of_ble_eq_true rfl) ⟨by omega, by omega⟩ ⟨Nat.zero_le _, Nat.zero_le _⟩ (fun u => rfl) (fun u => rfl) (fun u => rfl) ?_
            rintro ⟨G, X9⟩ hu
            refine V_iinc (lv' := [(5, .int (iI 0)), (0, .ref o), (1, .ref t), (2, .ref z), (3, .int (iI c)), (4, .int (iI g))]) (pc := 124) C dX7_reckon_124 0 rfl (by decide) rfl ?_
            refine V_goto (pc := 127) 54 C dX7_reckon_127 (by decide) ?_
            exact V_sub [0, 1, 2, 3, 4, 5] rfl (ih54 0 g3 L0 G L2 L3 L4 L5 L6 X9 (by omega) (by omega) (fun h => r0 ⟨by omega, h.2⟩) (fun h => by first | exact rwT_e (by omega) hu | exact rwT_bar (k := (ft 6 - 2).toNat) (by omega) (by rw [show ft 6 - ((ft 6 - 2).toNat : Int) - 1 = 1 by omega]; show bitI (T3 1) c = 1; unfold bitI; omega) (r2 ⟨by omega, by omega⟩) (by omega)) (fun h => r2 ⟨by omega, h.2⟩) (fun h => r3 ⟨by omega, h.2⟩) (fun h => r4 ⟨by omega, h.2⟩) (fun h => r5 ⟨by omega, h.2⟩) (fun h => r6 ⟨by omega, h.2⟩) (by omega))
          · refine V_aload_n (pc := 69) C dX7_reckon_69 rfl 1 rfl ?_
            refine gf_X7_13 (x := q 0) (pc := 70) C dX7_reckon_70 0 rfl rfl ?_
            refine V_iload (pc := 73) C dX7_reckon_73 0 rfl ?_
            refine V_iconst (pc := 75) C dX7_reckon_75 ?_
            refine V_iadd (pc := 76) C dX7_reckon_76 ?_
            refine V_eqt (y := 2) (by decide) ?_
            refine V_aald (k := 3) (x := ra 2) (f := rw) (Or.inr rfl) (pc := 77) C dX7_reckon_77 1 rfl (by decide) (by decide) (hr 2 (by decide)) (Nat.le_of_ble_eq_true rfl) ?_
            refine V_iconst (pc := 78) C dX7_reckon_78 ?_
            refine V_aload_n (pc := 79) C dX7_reckon_79 rfl 1 rfl ?_
            refine gf_X7_13 (x := q 0) (pc := 80) C dX7_reckon_80 0 rfl rfl ?_
            refine V_iload (pc := 83) C dX7_reckon_83 0 rfl ?_
            refine V_aald (k := 3) (x := ra 1) (f := rw) (Or.inr rfl) (pc := 85) C dX7_reckon_85 1 rfl (by decide) (by decide) (hr 1 (by decide)) (Nat.le_of_ble_eq_true rfl) ?_
            refine V_iconst (pc := 86) C dX7_reckon_86 ?_
            refine V_sipush (pc := 87) C dX7_reckon_87 rfl ?_
            refine ac_X7_54 (pc := 90) (f := L2) (g := L1) (ws' := [(o, .inr (7, fX7 q (up f 3 g3))), (q 0, aR (d 3) 7 rw), (ra 0, aI (d 0) 1098 L0), (ra 1, aI (d 0) 1098 (cpI L2 L1 1098)), (ra 2, aI (d 0) 1098 L2), (ra 3, aI (d 0) 1098 L3), (ra 4, aI (d 0) 1098 L4), (ra 5, aI (d 0) 1098 L5), (ra 6, aI (d 0) 1098 L6), (q 1, aI (d 0) 1098 X), (t, .inr (6, fX6 qt ft)), (qt 1, aI (d 0) 6 T1), (qt 3, aI (d 0) 6 T3), (qt 4, aI (d 0) 4 T4), (z, .inr (5, fX5 qz fz)), (qz 0, aI (d 0) 6 A0), (qz 1, aI (d 0) 4 A1)]) C dX7_reckon_90 4 3 rfl rfl (by decide) (by decide) (by decide) (by omega) (by show _ ≤ R9.locals; rw [hRl]; exact Nat.le_of_ble_eq_true rfl) rfl ?_
            refine V_goto (pc := 93) 124 C dX7_reckon_93 (by decide) ?_
            refine V_iinc (lv' := [(5, .int (iI 0)), (0, .ref o), (1, .ref t), (2, .ref z), (3, .int (iI c)), (4, .int (iI g))]) (pc := 124) C dX7_reckon_124 0 rfl (by decide) rfl ?_
            refine V_goto (pc := 127) 54 C dX7_reckon_127 (by decide) ?_
            exact V_sub [0, 1, 2, 3, 4, 5] rfl (ih54 0 g3 L0 (cpI L2 L1 1098) L2 L3 L4 L5 L6 X (by omega) (by omega) (fun h => r0 ⟨by omega, h.2⟩) (fun h => by first | exact rwT_e (by omega) hu | exact rwT_bar (k := (ft 6 - 2).toNat) (by omega) (by rw [show ft 6 - ((ft 6 - 2).toNat : Int) - 1 = 1 by omega]; show bitI (T3 1) c = 1; unfold bitI; omega) (r2 ⟨by omega, by omega⟩) (by omega)) (fun h => r2 ⟨by omega, h.2⟩) (fun h => r3 ⟨by omega, h.2⟩) (fun h => r4 ⟨by omega, h.2⟩) (fun h => r5 ⟨by omega, h.2⟩) (fun h => r6 ⟨by omega, h.2⟩) (by omega))
        · refine V_aload_n (pc := 59) C dX7_reckon_59 rfl 2 rfl ?_
          refine V_iload (pc := 60) C dX7_reckon_60 0 rfl ?_
          refine V_iload_n (pc := 62) C dX7_reckon_62 rfl 4 rfl ?_
          refine cv_X7_50 (pc := 63) (rest := []) (wn := fun _ => [(o, .inr (7, fX7 q (up f 3 g3))), (q 0, aR (d 3) 7 rw), (ra 0, aI (d 0) 1098 L0), (ra 1, aI (d 0) 1098 L1), (ra 2, aI (d 0) 1098 L2), (ra 3, aI (d 0) 1098 L3), (ra 4, aI (d 0) 1098 L4), (ra 5, aI (d 0) 1098 L5), (ra 6, aI (d 0) 1098 L6), (q 1, aI (d 0) 1098 X), (t, .inr (6, fX6 qt ft)), (qt 1, aI (d 0) 6 T1), (qt 3, aI (d 0) 6 T3), (qt 4, aI (d 0) 4 T4), (z, .inr (5, fX5 qz fz)), (qz 0, aI (d 0) 6 A0), (qz 1, aI (d 0) 4 A1)]) (sn := fun _ => [.int (iI (bI (T3 2 / 2 ^ c.toNat % 2 = 1)))]) C dX7_reckon_63 (c_X6_bars l D d t qt ft 2 c T3 (show 0 ≤ 2 ∧ 2 < 6 by omega) hC hT3) [10, 12] rfl rfl 10 rfl rfl rfl (Nat.le_of_ble_eq_true rfl) ⟨by omega, by omega⟩ ⟨Nat.zero_le _, Nat.zero_le _⟩ (fun _ => rfl) (fun _ => rfl) (fun _ => rfl) ?_
          intro _ _
          refine V_ifb_eq (pc := 66) 96 C dX7_reckon_66 (by decide) (fun c66 => ?_) (fun c66 => ?_)
          · refine V_aload_n (pc := 96) C dX7_reckon_96 rfl 1 rfl ?_
            refine V_iload (pc := 97) C dX7_reckon_97 0 rfl ?_
            refine V_aload_n (pc := 99) C dX7_reckon_99 rfl 3 rfl ?_
            refine gf_X7_60 (x := qz 0) (pc := 100) C dX7_reckon_100 14 rfl rfl ?_
            refine V_iload (pc := 103) C dX7_reckon_103 0 rfl ?_
            refine V_iald (f := A0) (pc := 105) C dX7_reckon_105 15 rfl (by omega) (by omega) (Nat.le_of_ble_eq_true rfl) ?_
            have b105 := hA0 2
            refine V_aload_n (pc := 106) C dX7_reckon_106 rfl 2 rfl ?_
            refine V_iload (pc := 107) C dX7_reckon_107 0 rfl ?_
            refine cs_X7_63 (pc := 109) (rest := [.int (iI (A0 2)), .int (iI 2), .ref o]) (wn := fun _ => [(o, .inr (7, fX7 q (up f 3 g3))), (q 0, aR (d 3) 7 rw), (ra 0, aI (d 0) 1098 L0), (ra 1, aI (d 0) 1098 L1), (ra 2, aI (d 0) 1098 L2), (ra 3, aI (d 0) 1098 L3), (ra 4, aI (d 0) 1098 L4), (ra 5, aI (d 0) 1098 L5), (ra 6, aI (d 0) 1098 L6), (q 1, aI (d 0) 1098 X), (t, .inr (6, fX6 qt ft)), (qt 1, aI (d 0) 6 T1), (qt 3, aI (d 0) 6 T3), (qt 4, aI (d 0) 4 T4), (z, .inr (5, fX5 qz fz)), (qz 0, aI (d 0) 6 A0), (qz 1, aI (d 0) 4 A1)]) (sn := fun _ => [.int (iI (T1 2 * 64 + 2 ^ Int.toNat 2)), .int (iI (A0 2)), .int (iI 2), .ref o]) C dX7_reckon_109 (c_X7_hire l D d t qt ft T1 2 (show 0 ≤ 2 ∧ 2 < 6 by omega)) [10, 11] rfl rfl rfl rfl (Nat.le_of_ble_eq_true rfl) ⟨by omega, by omega⟩ ⟨Nat.zero_le _, Nat.zero_le _⟩ (fun _ => rfl) (fun _ => rfl) (fun _ => rfl) ?_
            intro _ _
            refine V_aload_n (pc := 112) C dX7_reckon_112 rfl 2 rfl ?_
            refine gf_X7_67 (x := qt 4) (pc := 113) C dX7_reckon_113 10 rfl rfl ?_
            refine V_iload_n (pc := 116) C dX7_reckon_116 rfl 4 rfl ?_
            refine V_iald (f := T4) (pc := 117) C dX7_reckon_117 13 rfl (by omega) (by omega) (Nat.le_of_ble_eq_true rfl) ?_
            have b117 := hT4 c
            refine V_bipush (pc := 118) C dX7_reckon_118 rfl ?_
            refine V_imul (pc := 120) C dX7_reckon_120 ?_
            refine cv_X7_70 (pc := 121) (rest := []) (wn := fun u => [(o, .inr (7, fX7 q (up f 3 g3))), (q 0, aR (d 3) 7 rw), (ra 0, aI (d 0) 1098 L0), (ra 1, aI (d 0) 1098 L1), (ra 2, aI (d 0) 1098 u.1), (ra 3, aI (d 0) 1098 L3), (ra 4, aI (d 0) 1098 L4), (ra 5, aI (d 0) 1098 L5), (ra 6, aI (d 0) 1098 L6), (q 1, aI (d 0) 1098 u.2), (t, .inr (6, fX6 qt ft)), (qt 1, aI (d 0) 6 T1), (qt 3, aI (d 0) 6 T3), (qt 4, aI (d 0) 4 T4), (z, .inr (5, fX5 qz fz)), (qz 0, aI (d 0) 6 A0), (qz 1, aI (d 0) 4 A1)]) (sn := fun u => []) C dX7_reckon_121 (c_X7_fill l D d o q (up f 3 g3) rw (ra 2) (ra 3) ((ft 6 - 3).toNat) L2 L3 X A0 (hrI T1) (fun x => bitI (T3 x) c) (ft 6) ((T4 c) * 64) 2 (A0 2) (T1 2 * 64 + 2 ^ Int.toNat 2) (fun j => (hA0 j).1) (hrI_b hT1) (show 0 ≤ ((T4 c) * 64) ∧ ((T4 c) * 64) ≤ 6336 by omega) (show 0 ≤ 2 ∧ 2 < 6 by omega) (hr 2 (by decide)) (hr 3 (by decide)) (show 0 ≤ g3 ∧ g3 ≤ 1097 by omega) (show (ft 6) - (((ft 6 - 3).toNat) : Int) - 1 = 2 by omega) rfl (hrI_in (by decide)) (by show ¬ bitI (T3 2) c = 1; unfold bitI; omega) (by have q1 := hU 2 (by omega); have q2 := hA0 2; omega) (r3 ⟨by omega, by omega⟩)) [0, 1, 4, 5, 9] rfl rfl 0 rfl rfl rfl (Nat.le_of_ble_eq_true rfl) ⟨by omega, by omega⟩ ⟨Nat.zero_le _, Nat.zero_le _⟩ (fun u => rfl) (fun u => rfl) (fun u => rfl) ?_
            rintro ⟨G, X9⟩ hu
            refine V_iinc (lv' := [(5, .int (iI 1)), (0, .ref o), (1, .ref t), (2, .ref z), (3, .int (iI c)), (4, .int (iI g))]) (pc := 124) C dX7_reckon_124 0 rfl (by decide) rfl ?_
            refine V_goto (pc := 127) 54 C dX7_reckon_127 (by decide) ?_
            exact V_sub [0, 1, 2, 3, 4, 5] rfl (ih54 1 g3 L0 L1 G L3 L4 L5 L6 X9 (by omega) (by omega) (fun h => r0 ⟨by omega, h.2⟩) (fun h => r1 ⟨by omega, h.2⟩) (fun h => by first | exact rwT_e (by omega) hu | exact rwT_bar (k := (ft 6 - 3).toNat) (by omega) (by rw [show ft 6 - ((ft 6 - 3).toNat : Int) - 1 = 2 by omega]; show bitI (T3 2) c = 1; unfold bitI; omega) (r3 ⟨by omega, by omega⟩) (by omega)) (fun h => r3 ⟨by omega, h.2⟩) (fun h => r4 ⟨by omega, h.2⟩) (fun h => r5 ⟨by omega, h.2⟩) (fun h => r6 ⟨by omega, h.2⟩) (by omega))
          · refine V_aload_n (pc := 69) C dX7_reckon_69 rfl 1 rfl ?_
            refine gf_X7_13 (x := q 0) (pc := 70) C dX7_reckon_70 0 rfl rfl ?_
            refine V_iload (pc := 73) C dX7_reckon_73 0 rfl ?_
            refine V_iconst (pc := 75) C dX7_reckon_75 ?_
            refine V_iadd (pc := 76) C dX7_reckon_76 ?_
            refine V_eqt (y := 3) (by decide) ?_
            refine V_aald (k := 3) (x := ra 3) (f := rw) (Or.inr rfl) (pc := 77) C dX7_reckon_77 1 rfl (by decide) (by decide) (hr 3 (by decide)) (Nat.le_of_ble_eq_true rfl) ?_
            refine V_iconst (pc := 78) C dX7_reckon_78 ?_
            refine V_aload_n (pc := 79) C dX7_reckon_79 rfl 1 rfl ?_
            refine gf_X7_13 (x := q 0) (pc := 80) C dX7_reckon_80 0 rfl rfl ?_
            refine V_iload (pc := 83) C dX7_reckon_83 0 rfl ?_
            refine V_aald (k := 3) (x := ra 2) (f := rw) (Or.inr rfl) (pc := 85) C dX7_reckon_85 1 rfl (by decide) (by decide) (hr 2 (by decide)) (Nat.le_of_ble_eq_true rfl) ?_
            refine V_iconst (pc := 86) C dX7_reckon_86 ?_
            refine V_sipush (pc := 87) C dX7_reckon_87 rfl ?_
            refine ac_X7_54 (pc := 90) (f := L3) (g := L2) (ws' := [(o, .inr (7, fX7 q (up f 3 g3))), (q 0, aR (d 3) 7 rw), (ra 0, aI (d 0) 1098 L0), (ra 1, aI (d 0) 1098 L1), (ra 2, aI (d 0) 1098 (cpI L3 L2 1098)), (ra 3, aI (d 0) 1098 L3), (ra 4, aI (d 0) 1098 L4), (ra 5, aI (d 0) 1098 L5), (ra 6, aI (d 0) 1098 L6), (q 1, aI (d 0) 1098 X), (t, .inr (6, fX6 qt ft)), (qt 1, aI (d 0) 6 T1), (qt 3, aI (d 0) 6 T3), (qt 4, aI (d 0) 4 T4), (z, .inr (5, fX5 qz fz)), (qz 0, aI (d 0) 6 A0), (qz 1, aI (d 0) 4 A1)]) C dX7_reckon_90 5 4 rfl rfl (by decide) (by decide) (by decide) (by omega) (by show _ ≤ R9.locals; rw [hRl]; exact Nat.le_of_ble_eq_true rfl) rfl ?_
            refine V_goto (pc := 93) 124 C dX7_reckon_93 (by decide) ?_
            refine V_iinc (lv' := [(5, .int (iI 1)), (0, .ref o), (1, .ref t), (2, .ref z), (3, .int (iI c)), (4, .int (iI g))]) (pc := 124) C dX7_reckon_124 0 rfl (by decide) rfl ?_
            refine V_goto (pc := 127) 54 C dX7_reckon_127 (by decide) ?_
            exact V_sub [0, 1, 2, 3, 4, 5] rfl (ih54 1 g3 L0 L1 (cpI L3 L2 1098) L3 L4 L5 L6 X (by omega) (by omega) (fun h => r0 ⟨by omega, h.2⟩) (fun h => r1 ⟨by omega, h.2⟩) (fun h => by first | exact rwT_e (by omega) hu | exact rwT_bar (k := (ft 6 - 3).toNat) (by omega) (by rw [show ft 6 - ((ft 6 - 3).toNat : Int) - 1 = 2 by omega]; show bitI (T3 2) c = 1; unfold bitI; omega) (r3 ⟨by omega, by omega⟩) (by omega)) (fun h => r3 ⟨by omega, h.2⟩) (fun h => r4 ⟨by omega, h.2⟩) (fun h => r5 ⟨by omega, h.2⟩) (fun h => r6 ⟨by omega, h.2⟩) (by omega))
        · refine V_aload_n (pc := 59) C dX7_reckon_59 rfl 2 rfl ?_
          refine V_iload (pc := 60) C dX7_reckon_60 0 rfl ?_
          refine V_iload_n (pc := 62) C dX7_reckon_62 rfl 4 rfl ?_
          refine cv_X7_50 (pc := 63) (rest := []) (wn := fun _ => [(o, .inr (7, fX7 q (up f 3 g3))), (q 0, aR (d 3) 7 rw), (ra 0, aI (d 0) 1098 L0), (ra 1, aI (d 0) 1098 L1), (ra 2, aI (d 0) 1098 L2), (ra 3, aI (d 0) 1098 L3), (ra 4, aI (d 0) 1098 L4), (ra 5, aI (d 0) 1098 L5), (ra 6, aI (d 0) 1098 L6), (q 1, aI (d 0) 1098 X), (t, .inr (6, fX6 qt ft)), (qt 1, aI (d 0) 6 T1), (qt 3, aI (d 0) 6 T3), (qt 4, aI (d 0) 4 T4), (z, .inr (5, fX5 qz fz)), (qz 0, aI (d 0) 6 A0), (qz 1, aI (d 0) 4 A1)]) (sn := fun _ => [.int (iI (bI (T3 3 / 2 ^ c.toNat % 2 = 1)))]) C dX7_reckon_63 (c_X6_bars l D d t qt ft 3 c T3 (show 0 ≤ 3 ∧ 3 < 6 by omega) hC hT3) [10, 12] rfl rfl 10 rfl rfl rfl (Nat.le_of_ble_eq_true rfl) ⟨by omega, by omega⟩ ⟨Nat.zero_le _, Nat.zero_le _⟩ (fun _ => rfl) (fun _ => rfl) (fun _ => rfl) ?_
          intro _ _
          refine V_ifb_eq (pc := 66) 96 C dX7_reckon_66 (by decide) (fun c66 => ?_) (fun c66 => ?_)
          · refine V_aload_n (pc := 96) C dX7_reckon_96 rfl 1 rfl ?_
            refine V_iload (pc := 97) C dX7_reckon_97 0 rfl ?_
            refine V_aload_n (pc := 99) C dX7_reckon_99 rfl 3 rfl ?_
            refine gf_X7_60 (x := qz 0) (pc := 100) C dX7_reckon_100 14 rfl rfl ?_
            refine V_iload (pc := 103) C dX7_reckon_103 0 rfl ?_
            refine V_iald (f := A0) (pc := 105) C dX7_reckon_105 15 rfl (by omega) (by omega) (Nat.le_of_ble_eq_true rfl) ?_
            have b105 := hA0 3
            refine V_aload_n (pc := 106) C dX7_reckon_106 rfl 2 rfl ?_
            refine V_iload (pc := 107) C dX7_reckon_107 0 rfl ?_
            refine cs_X7_63 (pc := 109) (rest := [.int (iI (A0 3)), .int (iI 3), .ref o]) (wn := fun _ => [(o, .inr (7, fX7 q (up f 3 g3))), (q 0, aR (d 3) 7 rw), (ra 0, aI (d 0) 1098 L0), (ra 1, aI (d 0) 1098 L1), (ra 2, aI (d 0) 1098 L2), (ra 3, aI (d 0) 1098 L3), (ra 4, aI (d 0) 1098 L4), (ra 5, aI (d 0) 1098 L5), (ra 6, aI (d 0) 1098 L6), (q 1, aI (d 0) 1098 X), (t, .inr (6, fX6 qt ft)), (qt 1, aI (d 0) 6 T1), (qt 3, aI (d 0) 6 T3), (qt 4, aI (d 0) 4 T4), (z, .inr (5, fX5 qz fz)), (qz 0, aI (d 0) 6 A0), (qz 1, aI (d 0) 4 A1)]) (sn := fun _ => [.int (iI (T1 3 * 64 + 2 ^ Int.toNat 3)), .int (iI (A0 3)), .int (iI 3), .ref o]) C dX7_reckon_109 (c_X7_hire l D d t qt ft T1 3 (show 0 ≤ 3 ∧ 3 < 6 by omega)) [10, 11] rfl rfl rfl rfl (Nat.le_of_ble_eq_true rfl) ⟨by omega, by omega⟩ ⟨Nat.zero_le _, Nat.zero_le _⟩ (fun _ => rfl) (fun _ => rfl) (fun _ => rfl) ?_
            intro _ _
            refine V_aload_n (pc := 112) C dX7_reckon_112 rfl 2 rfl ?_
            refine gf_X7_67 (x := qt 4) (pc := 113) C dX7_reckon_113 10 rfl rfl ?_
            refine V_iload_n (pc := 116) C dX7_reckon_116 rfl 4 rfl ?_
            refine V_iald (f := T4) (pc := 117) C dX7_reckon_117 13 rfl (by omega) (by omega) (Nat.le_of_ble_eq_true rfl) ?_
            have b117 := hT4 c
            refine V_bipush (pc := 118) C dX7_reckon_118 rfl ?_
            refine V_imul (pc := 120) C dX7_reckon_120 ?_
            refine cv_X7_70 (pc := 121) (rest := []) (wn := fun u => [(o, .inr (7, fX7 q (up f 3 g3))), (q 0, aR (d 3) 7 rw), (ra 0, aI (d 0) 1098 L0), (ra 1, aI (d 0) 1098 L1), (ra 2, aI (d 0) 1098 L2), (ra 3, aI (d 0) 1098 u.1), (ra 4, aI (d 0) 1098 L4), (ra 5, aI (d 0) 1098 L5), (ra 6, aI (d 0) 1098 L6), (q 1, aI (d 0) 1098 u.2), (t, .inr (6, fX6 qt ft)), (qt 1, aI (d 0) 6 T1), (qt 3, aI (d 0) 6 T3), (qt 4, aI (d 0) 4 T4), (z, .inr (5, fX5 qz fz)), (qz 0, aI (d 0) 6 A0), (qz 1, aI (d 0) 4 A1)]) (sn := fun u => []) C dX7_reckon_121 (c_X7_fill l D d o q (up f 3 g3) rw (ra 3) (ra 4) ((ft 6 - 4).toNat) L3 L4 X A0 (hrI T1) (fun x => bitI (T3 x) c) (ft 6) ((T4 c) * 64) 3 (A0 3) (T1 3 * 64 + 2 ^ Int.toNat 3) (fun j => (hA0 j).1) (hrI_b hT1) (show 0 ≤ ((T4 c) * 64) ∧ ((T4 c) * 64) ≤ 6336 by omega) (show 0 ≤ 3 ∧ 3 < 6 by omega) (hr 3 (by decide)) (hr 4 (by decide)) (show 0 ≤ g3 ∧ g3 ≤ 1097 by omega) (show (ft 6) - (((ft 6 - 4).toNat) : Int) - 1 = 3 by omega) rfl (hrI_in (by decide)) (by show ¬ bitI (T3 3) c = 1; unfold bitI; omega) (by have q1 := hU 3 (by omega); have q2 := hA0 3; omega) (r4 ⟨by omega, by omega⟩)) [0, 1, 5, 6, 9] rfl rfl 0 rfl rfl rfl (Nat.le_of_ble_eq_true rfl) ⟨by omega, by omega⟩ ⟨Nat.zero_le _, Nat.zero_le _⟩ (fun u => rfl) (fun u => rfl) (fun u => rfl) ?_
            rintro ⟨G, X9⟩ hu
            refine V_iinc (lv' := [(5, .int (iI 2)), (0, .ref o), (1, .ref t), (2, .ref z), (3, .int (iI c)), (4, .int (iI g))]) (pc := 124) C dX7_reckon_124 0 rfl (by decide) rfl ?_
            refine V_goto (pc := 127) 54 C dX7_reckon_127 (by decide) ?_
            exact V_sub [0, 1, 2, 3, 4, 5] rfl (ih54 2 g3 L0 L1 L2 G L4 L5 L6 X9 (by omega) (by omega) (fun h => r0 ⟨by omega, h.2⟩) (fun h => r1 ⟨by omega, h.2⟩) (fun h => r2 ⟨by omega, h.2⟩) (fun h => by first | exact rwT_e (by omega) hu | exact rwT_bar (k := (ft 6 - 4).toNat) (by omega) (by rw [show ft 6 - ((ft 6 - 4).toNat : Int) - 1 = 3 by omega]; show bitI (T3 3) c = 1; unfold bitI; omega) (r4 ⟨by omega, by omega⟩) (by omega)) (fun h => r4 ⟨by omega, h.2⟩) (fun h => r5 ⟨by omega, h.2⟩) (fun h => r6 ⟨by omega, h.2⟩) (by omega))
          · refine V_aload_n (pc := 69) C dX7_reckon_69 rfl 1 rfl ?_
            refine gf_X7_13 (x := q 0) (pc := 70) C dX7_reckon_70 0 rfl rfl ?_
            refine V_iload (pc := 73) C dX7_reckon_73 0 rfl ?_
            refine V_iconst (pc := 75) C dX7_reckon_75 ?_
            refine V_iadd (pc := 76) C dX7_reckon_76 ?_
            refine V_eqt (y := 4) (by decide) ?_
            refine V_aald (k := 3) (x := ra 4) (f := rw) (Or.inr rfl) (pc := 77) C dX7_reckon_77 1 rfl (by decide) (by decide) (hr 4 (by decide)) (Nat.le_of_ble_eq_true rfl) ?_
            refine V_iconst (pc := 78) C dX7_reckon_78 ?_
            refine V_aload_n (pc := 79) C dX7_reckon_79 rfl 1 rfl ?_
            refine gf_X7_13 (x := q 0) (pc := 80) C dX7_reckon_80 0 rfl rfl ?_
            refine V_iload (pc := 83) C dX7_reckon_83 0 rfl ?_
            refine V_aald (k := 3) (x := ra 3) (f := rw) (Or.inr rfl) (pc := 85) C dX7_reckon_85 1 rfl (by decide) (by decide) (hr 3 (by decide)) (Nat.le_of_ble_eq_true rfl) ?_
            refine V_iconst (pc := 86) C dX7_reckon_86 ?_
            refine V_sipush (pc := 87) C dX7_reckon_87 rfl ?_
            refine ac_X7_54 (pc := 90) (f := L4) (g := L3) (ws' := [(o, .inr (7, fX7 q (up f 3 g3))), (q 0, aR (d 3) 7 rw), (ra 0, aI (d 0) 1098 L0), (ra 1, aI (d 0) 1098 L1), (ra 2, aI (d 0) 1098 L2), (ra 3, aI (d 0) 1098 (cpI L4 L3 1098)), (ra 4, aI (d 0) 1098 L4), (ra 5, aI (d 0) 1098 L5), (ra 6, aI (d 0) 1098 L6), (q 1, aI (d 0) 1098 X), (t, .inr (6, fX6 qt ft)), (qt 1, aI (d 0) 6 T1), (qt 3, aI (d 0) 6 T3), (qt 4, aI (d 0) 4 T4), (z, .inr (5, fX5 qz fz)), (qz 0, aI (d 0) 6 A0), (qz 1, aI (d 0) 4 A1)]) C dX7_reckon_90 6 5 rfl rfl (by decide) (by decide) (by decide) (by omega) (by show _ ≤ R9.locals; rw [hRl]; exact Nat.le_of_ble_eq_true rfl) rfl ?_
            refine V_goto (pc := 93) 124 C dX7_reckon_93 (by decide) ?_
            refine V_iinc (lv' := [(5, .int (iI 2)), (0, .ref o), (1, .ref t), (2, .ref z), (3, .int (iI c)), (4, .int (iI g))]) (pc := 124) C dX7_reckon_124 0 rfl (by decide) rfl ?_
            refine V_goto (pc := 127) 54 C dX7_reckon_127 (by decide) ?_
            exact V_sub [0, 1, 2, 3, 4, 5] rfl (ih54 2 g3 L0 L1 L2 (cpI L4 L3 1098) L4 L5 L6 X (by omega) (by omega) (fun h => r0 ⟨by omega, h.2⟩) (fun h => r1 ⟨by omega, h.2⟩) (fun h => r2 ⟨by omega, h.2⟩) (fun h => by first | exact rwT_e (by omega) hu | exact rwT_bar (k := (ft 6 - 4).toNat) (by omega) (by rw [show ft 6 - ((ft 6 - 4).toNat : Int) - 1 = 3 by omega]; show bitI (T3 3) c = 1; unfold bitI; omega) (r4 ⟨by omega, by omega⟩) (by omega)) (fun h => r4 ⟨by omega, h.2⟩) (fun h => r5 ⟨by omega, h.2⟩) (fun h => r6 ⟨by omega, h.2⟩) (by omega))
        · refine V_aload_n (pc := 59) C dX7_reckon_59 rfl 2 rfl ?_
          refine V_iload (pc := 60) C dX7_reckon_60 0 rfl ?_
          refine V_iload_n (pc := 62) C dX7_reckon_62 rfl 4 rfl ?_
          refine cv_X7_50 (pc := 63) (rest := []) (wn := fun _ => [(o, .inr (7, fX7 q (up f 3 g3))), (q 0, aR (d 3) 7 rw), (ra 0, aI (d 0) 1098 L0), (ra 1, aI (d 0) 1098 L1), (ra 2, aI (d 0) 1098 L2), (ra 3, aI (d 0) 1098 L3), (ra 4, aI (d 0) 1098 L4), (ra 5, aI (d 0) 1098 L5), (ra 6, aI (d 0) 1098 L6), (q 1, aI (d 0) 1098 X), (t, .inr (6, fX6 qt ft)), (qt 1, aI (d 0) 6 T1), (qt 3, aI (d 0) 6 T3), (qt 4, aI (d 0) 4 T4), (z, .inr (5, fX5 qz fz)), (qz 0, aI (d 0) 6 A0), (qz 1, aI (d 0) 4 A1)]) (sn := fun _ => [.int (iI (bI (T3 4 / 2 ^ c.toNat % 2 = 1)))]) C dX7_reckon_63 (c_X6_bars l D d t qt ft 4 c T3 (show 0 ≤ 4 ∧ 4 < 6 by omega) hC hT3) [10, 12] rfl rfl 10 rfl rfl rfl (Nat.le_of_ble_eq_true rfl) ⟨by omega, by omega⟩ ⟨Nat.zero_le _, Nat.zero_le _⟩ (fun _ => rfl) (fun _ => rfl) (fun _ => rfl) ?_
          intro _ _
          refine V_ifb_eq (pc := 66) 96 C dX7_reckon_66 (by decide) (fun c66 => ?_) (fun c66 => ?_)
          · refine V_aload_n (pc := 96) C dX7_reckon_96 rfl 1 rfl ?_
            refine V_iload (pc := 97) C dX7_reckon_97 0 rfl ?_
            refine V_aload_n (pc := 99) C dX7_reckon_99 rfl 3 rfl ?_
            refine gf_X7_60 (x := qz 0) (pc := 100) C dX7_reckon_100 14 rfl rfl ?_
            refine V_iload (pc := 103) C dX7_reckon_103 0 rfl ?_
            refine V_iald (f := A0) (pc := 105) C dX7_reckon_105 15 rfl (by omega) (by omega) (Nat.le_of_ble_eq_true rfl) ?_
            have b105 := hA0 4
            refine V_aload_n (pc := 106) C dX7_reckon_106 rfl 2 rfl ?_
            refine V_iload (pc := 107) C dX7_reckon_107 0 rfl ?_
            refine cs_X7_63 (pc := 109) (rest := [.int (iI (A0 4)), .int (iI 4), .ref o]) (wn := fun _ => [(o, .inr (7, fX7 q (up f 3 g3))), (q 0, aR (d 3) 7 rw), (ra 0, aI (d 0) 1098 L0), (ra 1, aI (d 0) 1098 L1), (ra 2, aI (d 0) 1098 L2), (ra 3, aI (d 0) 1098 L3), (ra 4, aI (d 0) 1098 L4), (ra 5, aI (d 0) 1098 L5), (ra 6, aI (d 0) 1098 L6), (q 1, aI (d 0) 1098 X), (t, .inr (6, fX6 qt ft)), (qt 1, aI (d 0) 6 T1), (qt 3, aI (d 0) 6 T3), (qt 4, aI (d 0) 4 T4), (z, .inr (5, fX5 qz fz)), (qz 0, aI (d 0) 6 A0), (qz 1, aI (d 0) 4 A1)]) (sn := fun _ => [.int (iI (T1 4 * 64 + 2 ^ Int.toNat 4)), .int (iI (A0 4)), .int (iI 4), .ref o]) C dX7_reckon_109 (c_X7_hire l D d t qt ft T1 4 (show 0 ≤ 4 ∧ 4 < 6 by omega)) [10, 11] rfl rfl rfl rfl (Nat.le_of_ble_eq_true rfl) ⟨by omega, by omega⟩ ⟨Nat.zero_le _, Nat.zero_le _⟩ (fun _ => rfl) (fun _ => rfl) (fun _ => rfl) ?_
            intro _ _
            refine V_aload_n (pc := 112) C dX7_reckon_112 rfl 2 rfl ?_
            refine gf_X7_67 (x := qt 4) (pc := 113) C dX7_reckon_113 10 rfl rfl ?_
            refine V_iload_n (pc := 116) C dX7_reckon_116 rfl 4 rfl ?_
            refine V_iald (f := T4) (pc := 117) C dX7_reckon_117 13 rfl (by omega) (by omega) (Nat.le_of_ble_eq_true rfl) ?_
            have b117 := hT4 c
            refine V_bipush (pc := 118) C dX7_reckon_118 rfl ?_
            refine V_imul (pc := 120) C dX7_reckon_120 ?_
            refine cv_X7_70 (pc := 121) (rest := []) (wn := fun u => [(o, .inr (7, fX7 q (up f 3 g3))), (q 0, aR (d 3) 7 rw), (ra 0, aI (d 0) 1098 L0), (ra 1, aI (d 0) 1098 L1), (ra 2, aI (d 0) 1098 L2), (ra 3, aI (d 0) 1098 L3), (ra 4, aI (d 0) 1098 u.1), (ra 5, aI (d 0) 1098 L5), (ra 6, aI (d 0) 1098 L6), (q 1, aI (d 0) 1098 u.2), (t, .inr (6, fX6 qt ft)), (qt 1, aI (d 0) 6 T1), (qt 3, aI (d 0) 6 T3), (qt 4, aI (d 0) 4 T4), (z, .inr (5, fX5 qz fz)), (qz 0, aI (d 0) 6 A0), (qz 1, aI (d 0) 4 A1)]) (sn := fun u => []) C dX7_reckon_121 (c_X7_fill l D d o q (up f 3 g3) rw (ra 4) (ra 5) ((ft 6 - 5).toNat) L4 L5 X A0 (hrI T1) (fun x => bitI (T3 x) c) (ft 6) ((T4 c) * 64) 4 (A0 4) (T1 4 * 64 + 2 ^ Int.toNat 4) (fun j => (hA0 j).1) (hrI_b hT1) (show 0 ≤ ((T4 c) * 64) ∧ ((T4 c) * 64) ≤ 6336 by omega) (show 0 ≤ 4 ∧ 4 < 6 by omega) (hr 4 (by decide)) (hr 5 (by decide)) (show 0 ≤ g3 ∧ g3 ≤ 1097 by omega) (show (ft 6) - (((ft 6 - 5).toNat) : Int) - 1 = 4 by omega) rfl (hrI_in (by decide)) (by show ¬ bitI (T3 4) c = 1; unfold bitI; omega) (by have q1 := hU 4 (by omega); have q2 := hA0 4; omega) (r5 ⟨by omega, by omega⟩)) [0, 1, 6, 7, 9] rfl rfl 0 rfl rfl rfl (Nat.le_of_ble_eq_true rfl) ⟨by omega, by omega⟩ ⟨Nat.zero_le _, Nat.zero_le _⟩ (fun u => rfl) (fun u => rfl) (fun u => rfl) ?_
            rintro ⟨G, X9⟩ hu
            refine V_iinc (lv' := [(5, .int (iI 3)), (0, .ref o), (1, .ref t), (2, .ref z), (3, .int (iI c)), (4, .int (iI g))]) (pc := 124) C dX7_reckon_124 0 rfl (by decide) rfl ?_
            refine V_goto (pc := 127) 54 C dX7_reckon_127 (by decide) ?_
            exact V_sub [0, 1, 2, 3, 4, 5] rfl (ih54 3 g3 L0 L1 L2 L3 G L5 L6 X9 (by omega) (by omega) (fun h => r0 ⟨by omega, h.2⟩) (fun h => r1 ⟨by omega, h.2⟩) (fun h => r2 ⟨by omega, h.2⟩) (fun h => r3 ⟨by omega, h.2⟩) (fun h => by first | exact rwT_e (by omega) hu | exact rwT_bar (k := (ft 6 - 5).toNat) (by omega) (by rw [show ft 6 - ((ft 6 - 5).toNat : Int) - 1 = 4 by omega]; show bitI (T3 4) c = 1; unfold bitI; omega) (r5 ⟨by omega, by omega⟩) (by omega)) (fun h => r5 ⟨by omega, h.2⟩) (fun h => r6 ⟨by omega, h.2⟩) (by omega))
          · refine V_aload_n (pc := 69) C dX7_reckon_69 rfl 1 rfl ?_
            refine gf_X7_13 (x := q 0) (pc := 70) C dX7_reckon_70 0 rfl rfl ?_
            refine V_iload (pc := 73) C dX7_reckon_73 0 rfl ?_
            refine V_iconst (pc := 75) C dX7_reckon_75 ?_
            refine V_iadd (pc := 76) C dX7_reckon_76 ?_
            refine V_eqt (y := 5) (by decide) ?_
            refine V_aald (k := 3) (x := ra 5) (f := rw) (Or.inr rfl) (pc := 77) C dX7_reckon_77 1 rfl (by decide) (by decide) (hr 5 (by decide)) (Nat.le_of_ble_eq_true rfl) ?_
            refine V_iconst (pc := 78) C dX7_reckon_78 ?_
            refine V_aload_n (pc := 79) C dX7_reckon_79 rfl 1 rfl ?_
            refine gf_X7_13 (x := q 0) (pc := 80) C dX7_reckon_80 0 rfl rfl ?_
            refine V_iload (pc := 83) C dX7_reckon_83 0 rfl ?_
            refine V_aald (k := 3) (x := ra 4) (f := rw) (Or.inr rfl) (pc := 85) C dX7_reckon_85 1 rfl (by decide) (by decide) (hr 4 (by decide)) (Nat.le_of_ble_eq_true rfl) ?_
            refine V_iconst (pc := 86) C dX7_reckon_86 ?_
            refine V_sipush (pc := 87) C dX7_reckon_87 rfl ?_
            refine ac_X7_54 (pc := 90) (f := L5) (g := L4) (ws' := [(o, .inr (7, fX7 q (up f 3 g3))), (q 0, aR (d 3) 7 rw), (ra 0, aI (d 0) 1098 L0), (ra 1, aI (d 0) 1098 L1), (ra 2, aI (d 0) 1098 L2), (ra 3, aI (d 0) 1098 L3), (ra 4, aI (d 0) 1098 (cpI L5 L4 1098)), (ra 5, aI (d 0) 1098 L5), (ra 6, aI (d 0) 1098 L6), (q 1, aI (d 0) 1098 X), (t, .inr (6, fX6 qt ft)), (qt 1, aI (d 0) 6 T1), (qt 3, aI (d 0) 6 T3), (qt 4, aI (d 0) 4 T4), (z, .inr (5, fX5 qz fz)), (qz 0, aI (d 0) 6 A0), (qz 1, aI (d 0) 4 A1)]) C dX7_reckon_90 7 6 rfl rfl (by decide) (by decide) (by decide) (by omega) (by show _ ≤ R9.locals; rw [hRl]; exact Nat.le_of_ble_eq_true rfl) rfl ?_
            refine V_goto (pc := 93) 124 C dX7_reckon_93 (by decide) ?_
            refine V_iinc (lv' := [(5, .int (iI 3)), (0, .ref o), (1, .ref t), (2, .ref z), (3, .int (iI c)), (4, .int (iI g))]) (pc := 124) C dX7_reckon_124 0 rfl (by decide) rfl ?_
            refine V_goto (pc := 127) 54 C dX7_reckon_127 (by decide) ?_
            exact V_sub [0, 1, 2, 3, 4, 5] rfl (ih54 3 g3 L0 L1 L2 L3 (cpI L5 L4 1098) L5 L6 X (by omega) (by omega) (fun h => r0 ⟨by omega, h.2⟩) (fun h => r1 ⟨by omega, h.2⟩) (fun h => r2 ⟨by omega, h.2⟩) (fun h => r3 ⟨by omega, h.2⟩) (fun h => by first | exact rwT_e (by omega) hu | exact rwT_bar (k := (ft 6 - 5).toNat) (by omega) (by rw [show ft 6 - ((ft 6 - 5).toNat : Int) - 1 = 4 by omega]; show bitI (T3 4) c = 1; unfold bitI; omega) (r5 ⟨by omega, by omega⟩) (by omega)) (fun h => r5 ⟨by omega, h.2⟩) (fun h => r6 ⟨by omega, h.2⟩) (by omega))
        · refine V_aload_n (pc := 59) C dX7_reckon_59 rfl 2 rfl ?_
          refine V_iload (pc := 60) C dX7_reckon_60 0 rfl ?_
          refine V_iload_n (pc := 62) C dX7_reckon_62 rfl 4 rfl ?_
          refine cv_X7_50 (pc := 63) (rest := []) (wn := fun _ => [(o, .inr (7, fX7 q (up f 3 g3))), (q 0, aR (d 3) 7 rw), (ra 0, aI (d 0) 1098 L0), (ra 1, aI (d 0) 1098 L1), (ra 2, aI (d 0) 1098 L2), (ra 3, aI (d 0) 1098 L3), (ra 4, aI (d 0) 1098 L4), (ra 5, aI (d 0) 1098 L5), (ra 6, aI (d 0) 1098 L6), (q 1, aI (d 0) 1098 X), (t, .inr (6, fX6 qt ft)), (qt 1, aI (d 0) 6 T1), (qt 3, aI (d 0) 6 T3), (qt 4, aI (d 0) 4 T4), (z, .inr (5, fX5 qz fz)), (qz 0, aI (d 0) 6 A0), (qz 1, aI (d 0) 4 A1)]) (sn := fun _ => [.int (iI (bI (T3 5 / 2 ^ c.toNat % 2 = 1)))]) C dX7_reckon_63 (c_X6_bars l D d t qt ft 5 c T3 (show 0 ≤ 5 ∧ 5 < 6 by omega) hC hT3) [10, 12] rfl rfl 10 rfl rfl rfl (Nat.le_of_ble_eq_true rfl) ⟨by omega, by omega⟩ ⟨Nat.zero_le _, Nat.zero_le _⟩ (fun _ => rfl) (fun _ => rfl) (fun _ => rfl) ?_
          intro _ _
          refine V_ifb_eq (pc := 66) 96 C dX7_reckon_66 (by decide) (fun c66 => ?_) (fun c66 => ?_)
          · refine V_aload_n (pc := 96) C dX7_reckon_96 rfl 1 rfl ?_
            refine V_iload (pc := 97) C dX7_reckon_97 0 rfl ?_
            refine V_aload_n (pc := 99) C dX7_reckon_99 rfl 3 rfl ?_
            refine gf_X7_60 (x := qz 0) (pc := 100) C dX7_reckon_100 14 rfl rfl ?_
            refine V_iload (pc := 103) C dX7_reckon_103 0 rfl ?_
            refine V_iald (f := A0) (pc := 105) C dX7_reckon_105 15 rfl (by omega) (by omega) (Nat.le_of_ble_eq_true rfl) ?_
            have b105 := hA0 5
            refine V_aload_n (pc := 106) C dX7_reckon_106 rfl 2 rfl ?_
            refine V_iload (pc := 107) C dX7_reckon_107 0 rfl ?_
            refine cs_X7_63 (pc := 109) (rest := [.int (iI (A0 5)), .int (iI 5), .ref o]) (wn := fun _ => [(o, .inr (7, fX7 q (up f 3 g3))), (q 0, aR (d 3) 7 rw), (ra 0, aI (d 0) 1098 L0), (ra 1, aI (d 0) 1098 L1), (ra 2, aI (d 0) 1098 L2), (ra 3, aI (d 0) 1098 L3), (ra 4, aI (d 0) 1098 L4), (ra 5, aI (d 0) 1098 L5), (ra 6, aI (d 0) 1098 L6), (q 1, aI (d 0) 1098 X), (t, .inr (6, fX6 qt ft)), (qt 1, aI (d 0) 6 T1), (qt 3, aI (d 0) 6 T3), (qt 4, aI (d 0) 4 T4), (z, .inr (5, fX5 qz fz)), (qz 0, aI (d 0) 6 A0), (qz 1, aI (d 0) 4 A1)]) (sn := fun _ => [.int (iI (T1 5 * 64 + 2 ^ Int.toNat 5)), .int (iI (A0 5)), .int (iI 5), .ref o]) C dX7_reckon_109 (c_X7_hire l D d t qt ft T1 5 (show 0 ≤ 5 ∧ 5 < 6 by omega)) [10, 11] rfl rfl rfl rfl (Nat.le_of_ble_eq_true rfl) ⟨by omega, by omega⟩ ⟨Nat.zero_le _, Nat.zero_le _⟩ (fun _ => rfl) (fun _ => rfl) (fun _ => rfl) ?_
            intro _ _
            refine V_aload_n (pc := 112) C dX7_reckon_112 rfl 2 rfl ?_
            refine gf_X7_67 (x := qt 4) (pc := 113) C dX7_reckon_113 10 rfl rfl ?_
            refine V_iload_n (pc := 116) C dX7_reckon_116 rfl 4 rfl ?_
            refine V_iald (f := T4) (pc := 117) C dX7_reckon_117 13 rfl (by omega) (by omega) (Nat.le_of_ble_eq_true rfl) ?_
            have b117 := hT4 c
            refine V_bipush (pc := 118) C dX7_reckon_118 rfl ?_
            refine V_imul (pc := 120) C dX7_reckon_120 ?_
            refine cv_X7_70 (pc := 121) (rest := []) (wn := fun u => [(o, .inr (7, fX7 q (up f 3 g3))), (q 0, aR (d 3) 7 rw), (ra 0, aI (d 0) 1098 L0), (ra 1, aI (d 0) 1098 L1), (ra 2, aI (d 0) 1098 L2), (ra 3, aI (d 0) 1098 L3), (ra 4, aI (d 0) 1098 L4), (ra 5, aI (d 0) 1098 u.1), (ra 6, aI (d 0) 1098 L6), (q 1, aI (d 0) 1098 u.2), (t, .inr (6, fX6 qt ft)), (qt 1, aI (d 0) 6 T1), (qt 3, aI (d 0) 6 T3), (qt 4, aI (d 0) 4 T4), (z, .inr (5, fX5 qz fz)), (qz 0, aI (d 0) 6 A0), (qz 1, aI (d 0) 4 A1)]) (sn := fun u => []) C dX7_reckon_121 (c_X7_fill l D d o q (up f 3 g3) rw (ra 5) (ra 6) ((ft 6 - 6).toNat) L5 L6 X A0 (hrI T1) (fun x => bitI (T3 x) c) (ft 6) ((T4 c) * 64) 5 (A0 5) (T1 5 * 64 + 2 ^ Int.toNat 5) (fun j => (hA0 j).1) (hrI_b hT1) (show 0 ≤ ((T4 c) * 64) ∧ ((T4 c) * 64) ≤ 6336 by omega) (show 0 ≤ 5 ∧ 5 < 6 by omega) (hr 5 (by decide)) (hr 6 (by decide)) (show 0 ≤ g3 ∧ g3 ≤ 1097 by omega) (show (ft 6) - (((ft 6 - 6).toNat) : Int) - 1 = 5 by omega) rfl (hrI_in (by decide)) (by show ¬ bitI (T3 5) c = 1; unfold bitI; omega) (by have q1 := hU 5 (by omega); have q2 := hA0 5; omega) (r6 ⟨by omega, by omega⟩)) [0, 1, 7, 8, 9] rfl rfl 0 rfl rfl rfl (Nat.le_of_ble_eq_true rfl) ⟨by omega, by omega⟩ ⟨Nat.zero_le _, Nat.zero_le _⟩ (fun u => rfl) (fun u => rfl) (fun u => rfl) ?_
            rintro ⟨G, X9⟩ hu
            refine V_iinc (lv' := [(5, .int (iI 4)), (0, .ref o), (1, .ref t), (2, .ref z), (3, .int (iI c)), (4, .int (iI g))]) (pc := 124) C dX7_reckon_124 0 rfl (by decide) rfl ?_
            refine V_goto (pc := 127) 54 C dX7_reckon_127 (by decide) ?_
            exact V_sub [0, 1, 2, 3, 4, 5] rfl (ih54 4 g3 L0 L1 L2 L3 L4 G L6 X9 (by omega) (by omega) (fun h => r0 ⟨by omega, h.2⟩) (fun h => r1 ⟨by omega, h.2⟩) (fun h => r2 ⟨by omega, h.2⟩) (fun h => r3 ⟨by omega, h.2⟩) (fun h => r4 ⟨by omega, h.2⟩) (fun h => by first | exact rwT_e (by omega) hu | exact rwT_bar (k := (ft 6 - 6).toNat) (by omega) (by rw [show ft 6 - ((ft 6 - 6).toNat : Int) - 1 = 5 by omega]; show bitI (T3 5) c = 1; unfold bitI; omega) (r6 ⟨by omega, by omega⟩) (by omega)) (fun h => r6 ⟨by omega, h.2⟩) (by omega))
          · refine V_aload_n (pc := 69) C dX7_reckon_69 rfl 1 rfl ?_
            refine gf_X7_13 (x := q 0) (pc := 70) C dX7_reckon_70 0 rfl rfl ?_
            refine V_iload (pc := 73) C dX7_reckon_73 0 rfl ?_
            refine V_iconst (pc := 75) C dX7_reckon_75 ?_
            refine V_iadd (pc := 76) C dX7_reckon_76 ?_
            refine V_eqt (y := 6) (by decide) ?_
            refine V_aald (k := 3) (x := ra 6) (f := rw) (Or.inr rfl) (pc := 77) C dX7_reckon_77 1 rfl (by decide) (by decide) (hr 6 (by decide)) (Nat.le_of_ble_eq_true rfl) ?_
            refine V_iconst (pc := 78) C dX7_reckon_78 ?_
            refine V_aload_n (pc := 79) C dX7_reckon_79 rfl 1 rfl ?_
            refine gf_X7_13 (x := q 0) (pc := 80) C dX7_reckon_80 0 rfl rfl ?_
            refine V_iload (pc := 83) C dX7_reckon_83 0 rfl ?_
            refine V_aald (k := 3) (x := ra 5) (f := rw) (Or.inr rfl) (pc := 85) C dX7_reckon_85 1 rfl (by decide) (by decide) (hr 5 (by decide)) (Nat.le_of_ble_eq_true rfl) ?_
            refine V_iconst (pc := 86) C dX7_reckon_86 ?_
            refine V_sipush (pc := 87) C dX7_reckon_87 rfl ?_
            refine ac_X7_54 (pc := 90) (f := L6) (g := L5) (ws' := [(o, .inr (7, fX7 q (up f 3 g3))), (q 0, aR (d 3) 7 rw), (ra 0, aI (d 0) 1098 L0), (ra 1, aI (d 0) 1098 L1), (ra 2, aI (d 0) 1098 L2), (ra 3, aI (d 0) 1098 L3), (ra 4, aI (d 0) 1098 L4), (ra 5, aI (d 0) 1098 (cpI L6 L5 1098)), (ra 6, aI (d 0) 1098 L6), (q 1, aI (d 0) 1098 X), (t, .inr (6, fX6 qt ft)), (qt 1, aI (d 0) 6 T1), (qt 3, aI (d 0) 6 T3), (qt 4, aI (d 0) 4 T4), (z, .inr (5, fX5 qz fz)), (qz 0, aI (d 0) 6 A0), (qz 1, aI (d 0) 4 A1)]) C dX7_reckon_90 8 7 rfl rfl (by decide) (by decide) (by decide) (by omega) (by show _ ≤ R9.locals; rw [hRl]; exact Nat.le_of_ble_eq_true rfl) rfl ?_
            refine V_goto (pc := 93) 124 C dX7_reckon_93 (by decide) ?_
            refine V_iinc (lv' := [(5, .int (iI 4)), (0, .ref o), (1, .ref t), (2, .ref z), (3, .int (iI c)), (4, .int (iI g))]) (pc := 124) C dX7_reckon_124 0 rfl (by decide) rfl ?_
            refine V_goto (pc := 127) 54 C dX7_reckon_127 (by decide) ?_
            exact V_sub [0, 1, 2, 3, 4, 5] rfl (ih54 4 g3 L0 L1 L2 L3 L4 (cpI L6 L5 1098) L6 X (by omega) (by omega) (fun h => r0 ⟨by omega, h.2⟩) (fun h => r1 ⟨by omega, h.2⟩) (fun h => r2 ⟨by omega, h.2⟩) (fun h => r3 ⟨by omega, h.2⟩) (fun h => r4 ⟨by omega, h.2⟩) (fun h => by first | exact rwT_e (by omega) hu | exact rwT_bar (k := (ft 6 - 6).toNat) (by omega) (by rw [show ft 6 - ((ft 6 - 6).toNat : Int) - 1 = 5 by omega]; show bitI (T3 5) c = 1; unfold bitI; omega) (r6 ⟨by omega, by omega⟩) (by omega)) (fun h => r6 ⟨by omega, h.2⟩) (by omega))
  refine V_aload_n (pc := 0) C dX7_reckon_0 rfl 0 rfl ?_
  refine V_aload_n (pc := 1) C dX7_reckon_1 rfl 2 rfl ?_
  refine gf_X7_23 (x := qz 1) (pc := 2) C dX7_reckon_2 14 rfl rfl ?_
  refine V_iload_n (pc := 5) C dX7_reckon_5 rfl 3 rfl ?_
  refine V_iald (f := A1) (pc := 6) C dX7_reckon_6 16 rfl (by omega) (by omega) (Nat.le_of_ble_eq_true rfl) ?_
  have b6 := hA1 c
  refine V_iload (pc := 7) C dX7_reckon_7 4 rfl ?_
  refine V_bipush (pc := 9) C dX7_reckon_9 rfl ?_
  refine V_iadd (pc := 11) C dX7_reckon_11 ?_
  refine V_iconst (pc := 12) C dX7_reckon_12 ?_
  refine V_isub (pc := 13) C dX7_reckon_13 ?_
  refine mm_X7_28 (pc := 14) C dX7_reckon_14 (sm_i (by omega)) (sm_i (by omega)) (by omega) (by show _ ≤ R9.locals; rw [hRl]; exact Nat.le_of_ble_eq_true rfl) (Nat.zero_le _) (Nat.zero_le _) ?_
  refine pf_X7_34 (ws' := [(o, .inr (7, fX7 q (up f 3 (min (A1 c) ((g + 99) - 1))))), (q 0, aR (d 3) 7 rw), (ra 0, aI (d 0) 1098 L0), (ra 1, aI (d 0) 1098 L1), (ra 2, aI (d 0) 1098 L2), (ra 3, aI (d 0) 1098 L3), (ra 4, aI (d 0) 1098 L4), (ra 5, aI (d 0) 1098 L5), (ra 6, aI (d 0) 1098 L6), (q 1, aI (d 0) 1098 X), (t, .inr (6, fX6 qt ft)), (qt 1, aI (d 0) 6 T1), (qt 3, aI (d 0) 6 T3), (qt 4, aI (d 0) 4 T4), (z, .inr (5, fX5 qz fz)), (qz 0, aI (d 0) 6 A0), (qz 1, aI (d 0) 4 A1)]) (pc := 17) C dX7_reckon_17 0 rfl rfl ?_
  rcases (show ft 6 = 0 ∨ ft 6 = 1 ∨ ft 6 = 2 ∨ ft 6 = 3 ∨ ft 6 = 4 ∨ ft 6 = 5 ∨ ft 6 = 6 by omega) with hN | hN | hN | hN | hN | hN | hN
  · refine V_aload_n (pc := 20) C dX7_reckon_20 rfl 0 rfl ?_
    refine gf_X7_13 (x := q 0) (pc := 21) C dX7_reckon_21 0 rfl rfl ?_
    refine V_aload_n (pc := 24) C dX7_reckon_24 rfl 1 rfl ?_
    refine gf_X7_38 (x := ft 6) (pc := 25) C dX7_reckon_25 10 rfl rfl ?_
    refine V_aald (k := 3) (x := ra 0) (f := rw) (Or.inr rfl) (pc := 28) C dX7_reckon_28 1 rfl (by omega) (by omega) (by rw [hN]; exact hr 0 (by decide)) (Nat.le_of_ble_eq_true rfl) ?_
    refine V_ldc (n := 1000000000) (pc := 29) C dX7_reckon_29 w2_218 rfl ?_
    refine cs_X7_44 (pc := 31) (rest := []) (wn := fun _ => [(o, .inr (7, fX7 q (up f 3 (min (A1 c) ((g + 99) - 1))))), (q 0, aR (d 3) 7 rw), (ra 0, aI (d 0) 1098 (cpI (fun _ => 1000000000) L0 1098)), (ra 1, aI (d 0) 1098 L1), (ra 2, aI (d 0) 1098 L2), (ra 3, aI (d 0) 1098 L3), (ra 4, aI (d 0) 1098 L4), (ra 5, aI (d 0) 1098 L5), (ra 6, aI (d 0) 1098 L6), (q 1, aI (d 0) 1098 X), (t, .inr (6, fX6 qt ft)), (qt 1, aI (d 0) 6 T1), (qt 3, aI (d 0) 6 T3), (qt 4, aI (d 0) 4 T4), (z, .inr (5, fX5 qz fz)), (qz 0, aI (d 0) 6 A0), (qz 1, aI (d 0) 4 A1)]) (sn := fun _ => []) C dX7_reckon_31 (c_J7_fill_53178 l D d (ra 0) 1098 L0 1000000000 (show 1098 < 2147483648 by omega)) [2] rfl rfl rfl rfl (Nat.le_of_ble_eq_true rfl) ⟨by omega, by omega⟩ ⟨Nat.zero_le _, Nat.zero_le _⟩ (fun _ => rfl) (fun _ => rfl) (fun _ => rfl) ?_
    intro _ _
    refine V_aload_n (pc := 34) C dX7_reckon_34 rfl 0 rfl ?_
    refine gf_X7_13 (x := q 0) (pc := 35) C dX7_reckon_35 0 rfl rfl ?_
    refine V_aload_n (pc := 38) C dX7_reckon_38 rfl 1 rfl ?_
    refine gf_X7_38 (x := ft 6) (pc := 39) C dX7_reckon_39 10 rfl rfl ?_
    refine V_aald (k := 3) (x := ra 0) (f := rw) (Or.inr rfl) (pc := 42) C dX7_reckon_42 1 rfl (by omega) (by omega) (by rw [hN]; exact hr 0 (by decide)) (Nat.le_of_ble_eq_true rfl) ?_
    refine V_iconst (pc := 43) C dX7_reckon_43 ?_
    refine V_iconst (pc := 44) C dX7_reckon_44 ?_
    refine V_iast (f := cpI (fun _ => 1000000000) L0 1098) (ws' := [(o, .inr (7, fX7 q (up f 3 (min (A1 c) ((g + 99) - 1))))), (q 0, aR (d 3) 7 rw), (ra 0, aI (d 0) 1098 (uI (cpI (fun _ => 1000000000) L0 1098) 0 0)), (ra 1, aI (d 0) 1098 L1), (ra 2, aI (d 0) 1098 L2), (ra 3, aI (d 0) 1098 L3), (ra 4, aI (d 0) 1098 L4), (ra 5, aI (d 0) 1098 L5), (ra 6, aI (d 0) 1098 L6), (q 1, aI (d 0) 1098 X), (t, .inr (6, fX6 qt ft)), (qt 1, aI (d 0) 6 T1), (qt 3, aI (d 0) 6 T3), (qt 4, aI (d 0) 4 T4), (z, .inr (5, fX5 qz fz)), (qz 0, aI (d 0) 6 A0), (qz 1, aI (d 0) 4 A1)]) (pc := 45) C dX7_reckon_45 2 rfl (by omega) (by omega) (Nat.le_of_ble_eq_true rfl) rfl ?_
    refine V_aload_n (pc := 46) C dX7_reckon_46 rfl 1 rfl ?_
    refine gf_X7_38 (x := ft 6) (pc := 47) C dX7_reckon_47 10 rfl rfl ?_
    refine V_iconst (pc := 50) C dX7_reckon_50 ?_
    refine V_isub (pc := 51) C dX7_reckon_51 ?_
    refine V_istore (lv' := [(5, .int (iI ((ft 6) - 1))), (0, .ref o), (1, .ref t), (2, .ref z), (3, .int (iI c)), (4, .int (iI g))]) (pc := 52) C dX7_reckon_52 (by decide) rfl ?_
    exact V_sub [0, 1, 2, 3, 4, 5] rfl (L54 ((((ft 6) - 1) + 1).toNat + 1) ((ft 6) - 1) (min (A1 c) ((g + 99) - 1)) (uI (cpI (fun _ => 1000000000) L0 1098) 0 0) L1 L2 L3 L4 L5 L6 X (by omega) (by omega) (fun h => rwT_0 (by omega) (by omega)) (fun h => by omega) (fun h => by omega) (fun h => by omega) (fun h => by omega) (fun h => by omega) (fun h => by omega) (Nat.lt_succ_self _))
  · refine V_aload_n (pc := 20) C dX7_reckon_20 rfl 0 rfl ?_
    refine gf_X7_13 (x := q 0) (pc := 21) C dX7_reckon_21 0 rfl rfl ?_
    refine V_aload_n (pc := 24) C dX7_reckon_24 rfl 1 rfl ?_
    refine gf_X7_38 (x := ft 6) (pc := 25) C dX7_reckon_25 10 rfl rfl ?_
    refine V_aald (k := 3) (x := ra 1) (f := rw) (Or.inr rfl) (pc := 28) C dX7_reckon_28 1 rfl (by omega) (by omega) (by rw [hN]; exact hr 1 (by decide)) (Nat.le_of_ble_eq_true rfl) ?_
    refine V_ldc (n := 1000000000) (pc := 29) C dX7_reckon_29 w2_218 rfl ?_
    refine cs_X7_44 (pc := 31) (rest := []) (wn := fun _ => [(o, .inr (7, fX7 q (up f 3 (min (A1 c) ((g + 99) - 1))))), (q 0, aR (d 3) 7 rw), (ra 0, aI (d 0) 1098 L0), (ra 1, aI (d 0) 1098 (cpI (fun _ => 1000000000) L1 1098)), (ra 2, aI (d 0) 1098 L2), (ra 3, aI (d 0) 1098 L3), (ra 4, aI (d 0) 1098 L4), (ra 5, aI (d 0) 1098 L5), (ra 6, aI (d 0) 1098 L6), (q 1, aI (d 0) 1098 X), (t, .inr (6, fX6 qt ft)), (qt 1, aI (d 0) 6 T1), (qt 3, aI (d 0) 6 T3), (qt 4, aI (d 0) 4 T4), (z, .inr (5, fX5 qz fz)), (qz 0, aI (d 0) 6 A0), (qz 1, aI (d 0) 4 A1)]) (sn := fun _ => []) C dX7_reckon_31 (c_J7_fill_53178 l D d (ra 1) 1098 L1 1000000000 (show 1098 < 2147483648 by omega)) [3] rfl rfl rfl rfl (Nat.le_of_ble_eq_true rfl) ⟨by omega, by omega⟩ ⟨Nat.zero_le _, Nat.zero_le _⟩ (fun _ => rfl) (fun _ => rfl) (fun _ => rfl) ?_
    intro _ _
    refine V_aload_n (pc := 34) C dX7_reckon_34 rfl 0 rfl ?_
    refine gf_X7_13 (x := q 0) (pc := 35) C dX7_reckon_35 0 rfl rfl ?_
    refine V_aload_n (pc := 38) C dX7_reckon_38 rfl 1 rfl ?_
    refine gf_X7_38 (x := ft 6) (pc := 39) C dX7_reckon_39 10 rfl rfl ?_
    refine V_aald (k := 3) (x := ra 1) (f := rw) (Or.inr rfl) (pc := 42) C dX7_reckon_42 1 rfl (by omega) (by omega) (by rw [hN]; exact hr 1 (by decide)) (Nat.le_of_ble_eq_true rfl) ?_
    refine V_iconst (pc := 43) C dX7_reckon_43 ?_
    refine V_iconst (pc := 44) C dX7_reckon_44 ?_
    refine V_iast (f := cpI (fun _ => 1000000000) L1 1098) (ws' := [(o, .inr (7, fX7 q (up f 3 (min (A1 c) ((g + 99) - 1))))), (q 0, aR (d 3) 7 rw), (ra 0, aI (d 0) 1098 L0), (ra 1, aI (d 0) 1098 (uI (cpI (fun _ => 1000000000) L1 1098) 0 0)), (ra 2, aI (d 0) 1098 L2), (ra 3, aI (d 0) 1098 L3), (ra 4, aI (d 0) 1098 L4), (ra 5, aI (d 0) 1098 L5), (ra 6, aI (d 0) 1098 L6), (q 1, aI (d 0) 1098 X), (t, .inr (6, fX6 qt ft)), (qt 1, aI (d 0) 6 T1), (qt 3, aI (d 0) 6 T3), (qt 4, aI (d 0) 4 T4), (z, .inr (5, fX5 qz fz)), (qz 0, aI (d 0) 6 A0), (qz 1, aI (d 0) 4 A1)]) (pc := 45) C dX7_reckon_45 3 rfl (by omega) (by omega) (Nat.le_of_ble_eq_true rfl) rfl ?_
    refine V_aload_n (pc := 46) C dX7_reckon_46 rfl 1 rfl ?_
    refine gf_X7_38 (x := ft 6) (pc := 47) C dX7_reckon_47 10 rfl rfl ?_
    refine V_iconst (pc := 50) C dX7_reckon_50 ?_
    refine V_isub (pc := 51) C dX7_reckon_51 ?_
    refine V_istore (lv' := [(5, .int (iI ((ft 6) - 1))), (0, .ref o), (1, .ref t), (2, .ref z), (3, .int (iI c)), (4, .int (iI g))]) (pc := 52) C dX7_reckon_52 (by decide) rfl ?_
    exact V_sub [0, 1, 2, 3, 4, 5] rfl (L54 ((((ft 6) - 1) + 1).toNat + 1) ((ft 6) - 1) (min (A1 c) ((g + 99) - 1)) L0 (uI (cpI (fun _ => 1000000000) L1 1098) 0 0) L2 L3 L4 L5 L6 X (by omega) (by omega) (fun h => by omega) (fun h => rwT_0 (by omega) (by omega)) (fun h => by omega) (fun h => by omega) (fun h => by omega) (fun h => by omega) (fun h => by omega) (Nat.lt_succ_self _))
  · refine V_aload_n (pc := 20) C dX7_reckon_20 rfl 0 rfl ?_
    refine gf_X7_13 (x := q 0) (pc := 21) C dX7_reckon_21 0 rfl rfl ?_
    refine V_aload_n (pc := 24) C dX7_reckon_24 rfl 1 rfl ?_
    refine gf_X7_38 (x := ft 6) (pc := 25) C dX7_reckon_25 10 rfl rfl ?_
    refine V_aald (k := 3) (x := ra 2) (f := rw) (Or.inr rfl) (pc := 28) C dX7_reckon_28 1 rfl (by omega) (by omega) (by rw [hN]; exact hr 2 (by decide)) (Nat.le_of_ble_eq_true rfl) ?_
    refine V_ldc (n := 1000000000) (pc := 29) C dX7_reckon_29 w2_218 rfl ?_
    refine cs_X7_44 (pc := 31) (rest := []) (wn := fun _ => [(o, .inr (7, fX7 q (up f 3 (min (A1 c) ((g + 99) - 1))))), (q 0, aR (d 3) 7 rw), (ra 0, aI (d 0) 1098 L0), (ra 1, aI (d 0) 1098 L1), (ra 2, aI (d 0) 1098 (cpI (fun _ => 1000000000) L2 1098)), (ra 3, aI (d 0) 1098 L3), (ra 4, aI (d 0) 1098 L4), (ra 5, aI (d 0) 1098 L5), (ra 6, aI (d 0) 1098 L6), (q 1, aI (d 0) 1098 X), (t, .inr (6, fX6 qt ft)), (qt 1, aI (d 0) 6 T1), (qt 3, aI (d 0) 6 T3), (qt 4, aI (d 0) 4 T4), (z, .inr (5, fX5 qz fz)), (qz 0, aI (d 0) 6 A0), (qz 1, aI (d 0) 4 A1)]) (sn := fun _ => []) C dX7_reckon_31 (c_J7_fill_53178 l D d (ra 2) 1098 L2 1000000000 (show 1098 < 2147483648 by omega)) [4] rfl rfl rfl rfl (Nat.le_of_ble_eq_true rfl) ⟨by omega, by omega⟩ ⟨Nat.zero_le _, Nat.zero_le _⟩ (fun _ => rfl) (fun _ => rfl) (fun _ => rfl) ?_
    intro _ _
    refine V_aload_n (pc := 34) C dX7_reckon_34 rfl 0 rfl ?_
    refine gf_X7_13 (x := q 0) (pc := 35) C dX7_reckon_35 0 rfl rfl ?_
    refine V_aload_n (pc := 38) C dX7_reckon_38 rfl 1 rfl ?_
    refine gf_X7_38 (x := ft 6) (pc := 39) C dX7_reckon_39 10 rfl rfl ?_
    refine V_aald (k := 3) (x := ra 2) (f := rw) (Or.inr rfl) (pc := 42) C dX7_reckon_42 1 rfl (by omega) (by omega) (by rw [hN]; exact hr 2 (by decide)) (Nat.le_of_ble_eq_true rfl) ?_
    refine V_iconst (pc := 43) C dX7_reckon_43 ?_
    refine V_iconst (pc := 44) C dX7_reckon_44 ?_
    refine V_iast (f := cpI (fun _ => 1000000000) L2 1098) (ws' := [(o, .inr (7, fX7 q (up f 3 (min (A1 c) ((g + 99) - 1))))), (q 0, aR (d 3) 7 rw), (ra 0, aI (d 0) 1098 L0), (ra 1, aI (d 0) 1098 L1), (ra 2, aI (d 0) 1098 (uI (cpI (fun _ => 1000000000) L2 1098) 0 0)), (ra 3, aI (d 0) 1098 L3), (ra 4, aI (d 0) 1098 L4), (ra 5, aI (d 0) 1098 L5), (ra 6, aI (d 0) 1098 L6), (q 1, aI (d 0) 1098 X), (t, .inr (6, fX6 qt ft)), (qt 1, aI (d 0) 6 T1), (qt 3, aI (d 0) 6 T3), (qt 4, aI (d 0) 4 T4), (z, .inr (5, fX5 qz fz)), (qz 0, aI (d 0) 6 A0), (qz 1, aI (d 0) 4 A1)]) (pc := 45) C dX7_reckon_45 4 rfl (by omega) (by omega) (Nat.le_of_ble_eq_true rfl) rfl ?_
    refine V_aload_n (pc := 46) C dX7_reckon_46 rfl 1 rfl ?_
    refine gf_X7_38 (x := ft 6) (pc := 47) C dX7_reckon_47 10 rfl rfl ?_
    refine V_iconst (pc := 50) C dX7_reckon_50 ?_
    refine V_isub (pc := 51) C dX7_reckon_51 ?_
    refine V_istore (lv' := [(5, .int (iI ((ft 6) - 1))), (0, .ref o), (1, .ref t), (2, .ref z), (3, .int (iI c)), (4, .int (iI g))]) (pc := 52) C dX7_reckon_52 (by decide) rfl ?_
    exact V_sub [0, 1, 2, 3, 4, 5] rfl (L54 ((((ft 6) - 1) + 1).toNat + 1) ((ft 6) - 1) (min (A1 c) ((g + 99) - 1)) L0 L1 (uI (cpI (fun _ => 1000000000) L2 1098) 0 0) L3 L4 L5 L6 X (by omega) (by omega) (fun h => by omega) (fun h => by omega) (fun h => rwT_0 (by omega) (by omega)) (fun h => by omega) (fun h => by omega) (fun h => by omega) (fun h => by omega) (Nat.lt_succ_self _))
  · refine V_aload_n (pc := 20) C dX7_reckon_20 rfl 0 rfl ?_
    refine gf_X7_13 (x := q 0) (pc := 21) C dX7_reckon_21 0 rfl rfl ?_
    refine V_aload_n (pc := 24) C dX7_reckon_24 rfl 1 rfl ?_
    refine gf_X7_38 (x := ft 6) (pc := 25) C dX7_reckon_25 10 rfl rfl ?_
    refine V_aald (k := 3) (x := ra 3) (f := rw) (Or.inr rfl) (pc := 28) C dX7_reckon_28 1 rfl (by omega) (by omega) (by rw [hN]; exact hr 3 (by decide)) (Nat.le_of_ble_eq_true rfl) ?_
    refine V_ldc (n := 1000000000) (pc := 29) C dX7_reckon_29 w2_218 rfl ?_
    refine cs_X7_44 (pc := 31) (rest := []) (wn := fun _ => [(o, .inr (7, fX7 q (up f 3 (min (A1 c) ((g + 99) - 1))))), (q 0, aR (d 3) 7 rw), (ra 0, aI (d 0) 1098 L0), (ra 1, aI (d 0) 1098 L1), (ra 2, aI (d 0) 1098 L2), (ra 3, aI (d 0) 1098 (cpI (fun _ => 1000000000) L3 1098)), (ra 4, aI (d 0) 1098 L4), (ra 5, aI (d 0) 1098 L5), (ra 6, aI (d 0) 1098 L6), (q 1, aI (d 0) 1098 X), (t, .inr (6, fX6 qt ft)), (qt 1, aI (d 0) 6 T1), (qt 3, aI (d 0) 6 T3), (qt 4, aI (d 0) 4 T4), (z, .inr (5, fX5 qz fz)), (qz 0, aI (d 0) 6 A0), (qz 1, aI (d 0) 4 A1)]) (sn := fun _ => []) C dX7_reckon_31 (c_J7_fill_53178 l D d (ra 3) 1098 L3 1000000000 (show 1098 < 2147483648 by omega)) [5] rfl rfl rfl rfl (Nat.le_of_ble_eq_true rfl) ⟨by omega, by omega⟩ ⟨Nat.zero_le _, Nat.zero_le _⟩ (fun _ => rfl) (fun _ => rfl) (fun _ => rfl) ?_
    intro _ _
    refine V_aload_n (pc := 34) C dX7_reckon_34 rfl 0 rfl ?_
    refine gf_X7_13 (x := q 0) (pc := 35) C dX7_reckon_35 0 rfl rfl ?_
    refine V_aload_n (pc := 38) C dX7_reckon_38 rfl 1 rfl ?_
    refine gf_X7_38 (x := ft 6) (pc := 39) C dX7_reckon_39 10 rfl rfl ?_
    refine V_aald (k := 3) (x := ra 3) (f := rw) (Or.inr rfl) (pc := 42) C dX7_reckon_42 1 rfl (by omega) (by omega) (by rw [hN]; exact hr 3 (by decide)) (Nat.le_of_ble_eq_true rfl) ?_
    refine V_iconst (pc := 43) C dX7_reckon_43 ?_
    refine V_iconst (pc := 44) C dX7_reckon_44 ?_
    refine V_iast (f := cpI (fun _ => 1000000000) L3 1098) (ws' := [(o, .inr (7, fX7 q (up f 3 (min (A1 c) ((g + 99) - 1))))), (q 0, aR (d 3) 7 rw), (ra 0, aI (d 0) 1098 L0), (ra 1, aI (d 0) 1098 L1), (ra 2, aI (d 0) 1098 L2), (ra 3, aI (d 0) 1098 (uI (cpI (fun _ => 1000000000) L3 1098) 0 0)), (ra 4, aI (d 0) 1098 L4), (ra 5, aI (d 0) 1098 L5), (ra 6, aI (d 0) 1098 L6), (q 1, aI (d 0) 1098 X), (t, .inr (6, fX6 qt ft)), (qt 1, aI (d 0) 6 T1), (qt 3, aI (d 0) 6 T3), (qt 4, aI (d 0) 4 T4), (z, .inr (5, fX5 qz fz)), (qz 0, aI (d 0) 6 A0), (qz 1, aI (d 0) 4 A1)]) (pc := 45) C dX7_reckon_45 5 rfl (by omega) (by omega) (Nat.le_of_ble_eq_true rfl) rfl ?_
    refine V_aload_n (pc := 46) C dX7_reckon_46 rfl 1 rfl ?_
    refine gf_X7_38 (x := ft 6) (pc := 47) C dX7_reckon_47 10 rfl rfl ?_
    refine V_iconst (pc := 50) C dX7_reckon_50 ?_
    refine V_isub (pc := 51) C dX7_reckon_51 ?_
    refine V_istore (lv' := [(5, .int (iI ((ft 6) - 1))), (0, .ref o), (1, .ref t), (2, .ref z), (3, .int (iI c)), (4, .int (iI g))]) (pc := 52) C dX7_reckon_52 (by decide) rfl ?_
    exact V_sub [0, 1, 2, 3, 4, 5] rfl (L54 ((((ft 6) - 1) + 1).toNat + 1) ((ft 6) - 1) (min (A1 c) ((g + 99) - 1)) L0 L1 L2 (uI (cpI (fun _ => 1000000000) L3 1098) 0 0) L4 L5 L6 X (by omega) (by omega) (fun h => by omega) (fun h => by omega) (fun h => by omega) (fun h => rwT_0 (by omega) (by omega)) (fun h => by omega) (fun h => by omega) (fun h => by omega) (Nat.lt_succ_self _))
  · refine V_aload_n (pc := 20) C dX7_reckon_20 rfl 0 rfl ?_
    refine gf_X7_13 (x := q 0) (pc := 21) C dX7_reckon_21 0 rfl rfl ?_
    refine V_aload_n (pc := 24) C dX7_reckon_24 rfl 1 rfl ?_
    refine gf_X7_38 (x := ft 6) (pc := 25) C dX7_reckon_25 10 rfl rfl ?_
    refine V_aald (k := 3) (x := ra 4) (f := rw) (Or.inr rfl) (pc := 28) C dX7_reckon_28 1 rfl (by omega) (by omega) (by rw [hN]; exact hr 4 (by decide)) (Nat.le_of_ble_eq_true rfl) ?_
    refine V_ldc (n := 1000000000) (pc := 29) C dX7_reckon_29 w2_218 rfl ?_
    refine cs_X7_44 (pc := 31) (rest := []) (wn := fun _ => [(o, .inr (7, fX7 q (up f 3 (min (A1 c) ((g + 99) - 1))))), (q 0, aR (d 3) 7 rw), (ra 0, aI (d 0) 1098 L0), (ra 1, aI (d 0) 1098 L1), (ra 2, aI (d 0) 1098 L2), (ra 3, aI (d 0) 1098 L3), (ra 4, aI (d 0) 1098 (cpI (fun _ => 1000000000) L4 1098)), (ra 5, aI (d 0) 1098 L5), (ra 6, aI (d 0) 1098 L6), (q 1, aI (d 0) 1098 X), (t, .inr (6, fX6 qt ft)), (qt 1, aI (d 0) 6 T1), (qt 3, aI (d 0) 6 T3), (qt 4, aI (d 0) 4 T4), (z, .inr (5, fX5 qz fz)), (qz 0, aI (d 0) 6 A0), (qz 1, aI (d 0) 4 A1)]) (sn := fun _ => []) C dX7_reckon_31 (c_J7_fill_53178 l D d (ra 4) 1098 L4 1000000000 (show 1098 < 2147483648 by omega)) [6] rfl rfl rfl rfl (Nat.le_of_ble_eq_true rfl) ⟨by omega, by omega⟩ ⟨Nat.zero_le _, Nat.zero_le _⟩ (fun _ => rfl) (fun _ => rfl) (fun _ => rfl) ?_
    intro _ _
    refine V_aload_n (pc := 34) C dX7_reckon_34 rfl 0 rfl ?_
    refine gf_X7_13 (x := q 0) (pc := 35) C dX7_reckon_35 0 rfl rfl ?_
    refine V_aload_n (pc := 38) C dX7_reckon_38 rfl 1 rfl ?_
    refine gf_X7_38 (x := ft 6) (pc := 39) C dX7_reckon_39 10 rfl rfl ?_
    refine V_aald (k := 3) (x := ra 4) (f := rw) (Or.inr rfl) (pc := 42) C dX7_reckon_42 1 rfl (by omega) (by omega) (by rw [hN]; exact hr 4 (by decide)) (Nat.le_of_ble_eq_true rfl) ?_
    refine V_iconst (pc := 43) C dX7_reckon_43 ?_
    refine V_iconst (pc := 44) C dX7_reckon_44 ?_
    refine V_iast (f := cpI (fun _ => 1000000000) L4 1098) (ws' := [(o, .inr (7, fX7 q (up f 3 (min (A1 c) ((g + 99) - 1))))), (q 0, aR (d 3) 7 rw), (ra 0, aI (d 0) 1098 L0), (ra 1, aI (d 0) 1098 L1), (ra 2, aI (d 0) 1098 L2), (ra 3, aI (d 0) 1098 L3), (ra 4, aI (d 0) 1098 (uI (cpI (fun _ => 1000000000) L4 1098) 0 0)), (ra 5, aI (d 0) 1098 L5), (ra 6, aI (d 0) 1098 L6), (q 1, aI (d 0) 1098 X), (t, .inr (6, fX6 qt ft)), (qt 1, aI (d 0) 6 T1), (qt 3, aI (d 0) 6 T3), (qt 4, aI (d 0) 4 T4), (z, .inr (5, fX5 qz fz)), (qz 0, aI (d 0) 6 A0), (qz 1, aI (d 0) 4 A1)]) (pc := 45) C dX7_reckon_45 6 rfl (by omega) (by omega) (Nat.le_of_ble_eq_true rfl) rfl ?_
    refine V_aload_n (pc := 46) C dX7_reckon_46 rfl 1 rfl ?_
    refine gf_X7_38 (x := ft 6) (pc := 47) C dX7_reckon_47 10 rfl rfl ?_
    refine V_iconst (pc := 50) C dX7_reckon_50 ?_
    refine V_isub (pc := 51) C dX7_reckon_51 ?_
    refine V_istore (lv' := [(5, .int (iI ((ft 6) - 1))), (0, .ref o), (1, .ref t), (2, .ref z), (3, .int (iI c)), (4, .int (iI g))]) (pc := 52) C dX7_reckon_52 (by decide) rfl ?_
    exact V_sub [0, 1, 2, 3, 4, 5] rfl (L54 ((((ft 6) - 1) + 1).toNat + 1) ((ft 6) - 1) (min (A1 c) ((g + 99) - 1)) L0 L1 L2 L3 (uI (cpI (fun _ => 1000000000) L4 1098) 0 0) L5 L6 X (by omega) (by omega) (fun h => by omega) (fun h => by omega) (fun h => by omega) (fun h => by omega) (fun h => rwT_0 (by omega) (by omega)) (fun h => by omega) (fun h => by omega) (Nat.lt_succ_self _))
  · refine V_aload_n (pc := 20) C dX7_reckon_20 rfl 0 rfl ?_
    refine gf_X7_13 (x := q 0) (pc := 21) C dX7_reckon_21 0 rfl rfl ?_
    refine V_aload_n (pc := 24) C dX7_reckon_24 rfl 1 rfl ?_
    refine gf_X7_38 (x := ft 6) (pc := 25) C dX7_reckon_25 10 rfl rfl ?_
    refine V_aald (k := 3) (x := ra 5) (f := rw) (Or.inr rfl) (pc := 28) C dX7_reckon_28 1 rfl (by omega) (by omega) (by rw [hN]; exact hr 5 (by decide)) (Nat.le_of_ble_eq_true rfl) ?_
    refine V_ldc (n := 1000000000) (pc := 29) C dX7_reckon_29 w2_218 rfl ?_
    refine cs_X7_44 (pc := 31) (rest := []) (wn := fun _ => [(o, .inr (7, fX7 q (up f 3 (min (A1 c) ((g + 99) - 1))))), (q 0, aR (d 3) 7 rw), (ra 0, aI (d 0) 1098 L0), (ra 1, aI (d 0) 1098 L1), (ra 2, aI (d 0) 1098 L2), (ra 3, aI (d 0) 1098 L3), (ra 4, aI (d 0) 1098 L4), (ra 5, aI (d 0) 1098 (cpI (fun _ => 1000000000) L5 1098)), (ra 6, aI (d 0) 1098 L6), (q 1, aI (d 0) 1098 X), (t, .inr (6, fX6 qt ft)), (qt 1, aI (d 0) 6 T1), (qt 3, aI (d 0) 6 T3), (qt 4, aI (d 0) 4 T4), (z, .inr (5, fX5 qz fz)), (qz 0, aI (d 0) 6 A0), (qz 1, aI (d 0) 4 A1)]) (sn := fun _ => []) C dX7_reckon_31 (c_J7_fill_53178 l D d (ra 5) 1098 L5 1000000000 (show 1098 < 2147483648 by omega)) [7] rfl rfl rfl rfl (Nat.le_of_ble_eq_true rfl) ⟨by omega, by omega⟩ ⟨Nat.zero_le _, Nat.zero_le _⟩ (fun _ => rfl) (fun _ => rfl) (fun _ => rfl) ?_
    intro _ _
    refine V_aload_n (pc := 34) C dX7_reckon_34 rfl 0 rfl ?_
    refine gf_X7_13 (x := q 0) (pc := 35) C dX7_reckon_35 0 rfl rfl ?_
    refine V_aload_n (pc := 38) C dX7_reckon_38 rfl 1 rfl ?_
    refine gf_X7_38 (x := ft 6) (pc := 39) C dX7_reckon_39 10 rfl rfl ?_
    refine V_aald (k := 3) (x := ra 5) (f := rw) (Or.inr rfl) (pc := 42) C dX7_reckon_42 1 rfl (by omega) (by omega) (by rw [hN]; exact hr 5 (by decide)) (Nat.le_of_ble_eq_true rfl) ?_
    refine V_iconst (pc := 43) C dX7_reckon_43 ?_
    refine V_iconst (pc := 44) C dX7_reckon_44 ?_
    refine V_iast (f := cpI (fun _ => 1000000000) L5 1098) (ws' := [(o, .inr (7, fX7 q (up f 3 (min (A1 c) ((g + 99) - 1))))), (q 0, aR (d 3) 7 rw), (ra 0, aI (d 0) 1098 L0), (ra 1, aI (d 0) 1098 L1), (ra 2, aI (d 0) 1098 L2), (ra 3, aI (d 0) 1098 L3), (ra 4, aI (d 0) 1098 L4), (ra 5, aI (d 0) 1098 (uI (cpI (fun _ => 1000000000) L5 1098) 0 0)), (ra 6, aI (d 0) 1098 L6), (q 1, aI (d 0) 1098 X), (t, .inr (6, fX6 qt ft)), (qt 1, aI (d 0) 6 T1), (qt 3, aI (d 0) 6 T3), (qt 4, aI (d 0) 4 T4), (z, .inr (5, fX5 qz fz)), (qz 0, aI (d 0) 6 A0), (qz 1, aI (d 0) 4 A1)]) (pc := 45) C dX7_reckon_45 7 rfl (by omega) (by omega) (Nat.le_of_ble_eq_true rfl) rfl ?_
    refine V_aload_n (pc := 46) C dX7_reckon_46 rfl 1 rfl ?_
    refine gf_X7_38 (x := ft 6) (pc := 47) C dX7_reckon_47 10 rfl rfl ?_
    refine V_iconst (pc := 50) C dX7_reckon_50 ?_
    refine V_isub (pc := 51) C dX7_reckon_51 ?_
    refine V_istore (lv' := [(5, .int (iI ((ft 6) - 1))), (0, .ref o), (1, .ref t), (2, .ref z), (3, .int (iI c)), (4, .int (iI g))]) (pc := 52) C dX7_reckon_52 (by decide) rfl ?_
    exact V_sub [0, 1, 2, 3, 4, 5] rfl (L54 ((((ft 6) - 1) + 1).toNat + 1) ((ft 6) - 1) (min (A1 c) ((g + 99) - 1)) L0 L1 L2 L3 L4 (uI (cpI (fun _ => 1000000000) L5 1098) 0 0) L6 X (by omega) (by omega) (fun h => by omega) (fun h => by omega) (fun h => by omega) (fun h => by omega) (fun h => by omega) (fun h => rwT_0 (by omega) (by omega)) (fun h => by omega) (Nat.lt_succ_self _))
  · refine V_aload_n (pc := 20) C dX7_reckon_20 rfl 0 rfl ?_
    refine gf_X7_13 (x := q 0) (pc := 21) C dX7_reckon_21 0 rfl rfl ?_
    refine V_aload_n (pc := 24) C dX7_reckon_24 rfl 1 rfl ?_
    refine gf_X7_38 (x := ft 6) (pc := 25) C dX7_reckon_25 10 rfl rfl ?_
    refine V_aald (k := 3) (x := ra 6) (f := rw) (Or.inr rfl) (pc := 28) C dX7_reckon_28 1 rfl (by omega) (by omega) (by rw [hN]; exact hr 6 (by decide)) (Nat.le_of_ble_eq_true rfl) ?_
    refine V_ldc (n := 1000000000) (pc := 29) C dX7_reckon_29 w2_218 rfl ?_
    refine cs_X7_44 (pc := 31) (rest := []) (wn := fun _ => [(o, .inr (7, fX7 q (up f 3 (min (A1 c) ((g + 99) - 1))))), (q 0, aR (d 3) 7 rw), (ra 0, aI (d 0) 1098 L0), (ra 1, aI (d 0) 1098 L1), (ra 2, aI (d 0) 1098 L2), (ra 3, aI (d 0) 1098 L3), (ra 4, aI (d 0) 1098 L4), (ra 5, aI (d 0) 1098 L5), (ra 6, aI (d 0) 1098 (cpI (fun _ => 1000000000) L6 1098)), (q 1, aI (d 0) 1098 X), (t, .inr (6, fX6 qt ft)), (qt 1, aI (d 0) 6 T1), (qt 3, aI (d 0) 6 T3), (qt 4, aI (d 0) 4 T4), (z, .inr (5, fX5 qz fz)), (qz 0, aI (d 0) 6 A0), (qz 1, aI (d 0) 4 A1)]) (sn := fun _ => []) C dX7_reckon_31 (c_J7_fill_53178 l D d (ra 6) 1098 L6 1000000000 (show 1098 < 2147483648 by omega)) [8] rfl rfl rfl rfl (Nat.le_of_ble_eq_true rfl) ⟨by omega, by omega⟩ ⟨Nat.zero_le _, Nat.zero_le _⟩ (fun _ => rfl) (fun _ => rfl) (fun _ => rfl) ?_
    intro _ _
    refine V_aload_n (pc := 34) C dX7_reckon_34 rfl 0 rfl ?_
    refine gf_X7_13 (x := q 0) (pc := 35) C dX7_reckon_35 0 rfl rfl ?_
    refine V_aload_n (pc := 38) C dX7_reckon_38 rfl 1 rfl ?_
    refine gf_X7_38 (x := ft 6) (pc := 39) C dX7_reckon_39 10 rfl rfl ?_
    refine V_aald (k := 3) (x := ra 6) (f := rw) (Or.inr rfl) (pc := 42) C dX7_reckon_42 1 rfl (by omega) (by omega) (by rw [hN]; exact hr 6 (by decide)) (Nat.le_of_ble_eq_true rfl) ?_
    refine V_iconst (pc := 43) C dX7_reckon_43 ?_
    refine V_iconst (pc := 44) C dX7_reckon_44 ?_
    refine V_iast (f := cpI (fun _ => 1000000000) L6 1098) (ws' := [(o, .inr (7, fX7 q (up f 3 (min (A1 c) ((g + 99) - 1))))), (q 0, aR (d 3) 7 rw), (ra 0, aI (d 0) 1098 L0), (ra 1, aI (d 0) 1098 L1), (ra 2, aI (d 0) 1098 L2), (ra 3, aI (d 0) 1098 L3), (ra 4, aI (d 0) 1098 L4), (ra 5, aI (d 0) 1098 L5), (ra 6, aI (d 0) 1098 (uI (cpI (fun _ => 1000000000) L6 1098) 0 0)), (q 1, aI (d 0) 1098 X), (t, .inr (6, fX6 qt ft)), (qt 1, aI (d 0) 6 T1), (qt 3, aI (d 0) 6 T3), (qt 4, aI (d 0) 4 T4), (z, .inr (5, fX5 qz fz)), (qz 0, aI (d 0) 6 A0), (qz 1, aI (d 0) 4 A1)]) (pc := 45) C dX7_reckon_45 8 rfl (by omega) (by omega) (Nat.le_of_ble_eq_true rfl) rfl ?_
    refine V_aload_n (pc := 46) C dX7_reckon_46 rfl 1 rfl ?_
    refine gf_X7_38 (x := ft 6) (pc := 47) C dX7_reckon_47 10 rfl rfl ?_
    refine V_iconst (pc := 50) C dX7_reckon_50 ?_
    refine V_isub (pc := 51) C dX7_reckon_51 ?_
    refine V_istore (lv' := [(5, .int (iI ((ft 6) - 1))), (0, .ref o), (1, .ref t), (2, .ref z), (3, .int (iI c)), (4, .int (iI g))]) (pc := 52) C dX7_reckon_52 (by decide) rfl ?_
    exact V_sub [0, 1, 2, 3, 4, 5] rfl (L54 ((((ft 6) - 1) + 1).toNat + 1) ((ft 6) - 1) (min (A1 c) ((g + 99) - 1)) L0 L1 L2 L3 L4 L5 (uI (cpI (fun _ => 1000000000) L6 1098) 0 0) X (by omega) (by omega) (fun h => by omega) (fun h => by omega) (fun h => by omega) (fun h => by omega) (fun h => by omega) (fun h => by omega) (fun h => rwT_0 (by omega) (by omega)) (Nat.lt_succ_self _))
