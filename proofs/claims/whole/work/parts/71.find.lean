set_option maxRecDepth 100000 in
set_option maxHeartbeats 4000000 in
theorem c_X9_findCheapest (l : Launch) (D : va_G) (d : Nat → ClassId) (o : Nat) (q : Nat → Nat) (f : Nat → Int) (M6 : Int → Int) (M7 : Int → Int) (M8 : Int → Int) (M9 : Int → Int) (M10 : Int → Int) (M40 : Int → Int) (M41 : Int → Int) (c : Int) (L : Int) (hM6 : bd M6 0 99) (hM7 : bd M7 0 99) (hM8 : bd M8 0 99) (hM9 : bd M9 0 9999) (hM10 : bd M10 0 1) (hM40 : bd M40 0 100005) (hP : 0 ≤ f 4 ∧ f 4 ≤ 6) (hc : 0 ≤ c ∧ c < 4) (hL : 1 ≤ L ∧ L ≤ 999) (hU : ∀ j : Int, 0 ≤ j ∧ j < f 4 → 1 ≤ M6 j) : CU l yX9_findCheapest cX9_findCheapest 10 (some .int) 2 55 D d [.ref o, .int (iI c), .int (iI L)] [(o, .inr (9, fX9 q f)), (q 6, aI (d 0) 6 M6), (q 7, aI (d 0) 6 M7), (q 8, aI (d 0) 4 M8), (q 9, aI (d 0) 4 M9), (q 10, aI (d 1) 24 M10), (q 40, aI (d 0) 7707 M40), (q 41, aI (d 0) 6 M41)] (fun (u : Int × (Int → Int) × (Int → Int)) => fcI M6 M7 (fun x => M10 (4 * x + c)) (M8 c) (f 4) L (min (M9 c) 1100) (2 ^ (f 4).toNat) u.1 u.2.2 ∧ bd u.2.1 0 100005 ∧ -9 ≤ u.1 ∧ u.1 ≤ 20000000) (fun (u : Int × (Int → Int) × (Int → Int)) => some (.int (iI (u.1)))) (fun (u : Int × (Int → Int) × (Int → Int)) => [(o, .inr (9, fX9 q f)), (q 6, aI (d 0) 6 M6), (q 7, aI (d 0) 6 M7), (q 8, aI (d 0) 4 M8), (q 9, aI (d 0) 4 M9), (q 10, aI (d 1) 24 M10), (q 40, aI (d 0) 7707 u.2.1), (q 41, aI (d 0) 6 u.2.2)]) := by
  refine CU.mk (own := RX9) (lv := [(0, .ref o), (1, .int (iI c)), (2, .int (iI L))]) rfl (by decide) (Nat.le_of_ble_eq_true rfl) rfl ?_
  intro p9 e9 R9 s9 m9 args9 below9 meth9 c9 A9 Q9 hRf hRl C Z
  have p2 := p2_le6 hP
  have n9 := hM9 c
  have p9b := hM8 c
  have L32 : ∀ (nn9 : Nat) (m : Int) (b : Int) (T : Int) (G : Int → Int) (E : Int → Int), (1 ≤ m ∧ m ≤ 2 ^ (f 4).toNat) → (T = min (M9 c) 1100) → (-9 ≤ b ∧ b ≤ 20000000) → (fcI M6 M7 (fun x => M10 (4 * x + c)) (M8 c) (f 4) L T m b E) → (bd G 0 100005) → Int.toNat (2 ^ (f 4).toNat - m) < nn9 → V p9 l e9 R9 s9 m9 args9 below9 meth9 c9 A9 D Q9 10 0 0 [(o, .inr (9, fX9 q f)), (q 6, aI (d 0) 6 M6), (q 7, aI (d 0) 6 M7), (q 8, aI (d 0) 4 M8), (q 9, aI (d 0) 4 M9), (q 10, aI (d 1) 24 M10), (q 40, aI (d 0) 7707 G), (q 41, aI (d 0) 6 E)] [(5, .int (iI m)), (4, .int (iI b)), (3, .int (iI T)), (0, .ref o), (1, .int (iI c)), (2, .int (iI L))] 32 [] := by
    intro nn9
    induction nn9 with
    | zero => intro _ _ _ _ _ _ _ _ _ _ hm32; exact absurd hm32 (Nat.not_lt_zero _)
    | succ nn9 ih32 =>
      intro m b T G E hm hT hb hf hG hm32
      have T0 : 0 ≤ T ∧ T ≤ 1100 := by omega
      refine V_iload (pc := 32) C dX9_findCheapest_32 0 rfl ?_
      refine V_iconst (pc := 34) C dX9_findCheapest_34 ?_
      refine V_aload_n (pc := 35) C dX9_findCheapest_35 rfl 3 rfl ?_
      refine gf_X9_120 (x := f 4) (pc := 36) C dX9_findCheapest_36 0 rfl rfl ?_
      refine V_ishl (z := (2 ^ (f 4).toNat)) (pc := 39) C dX9_findCheapest_39 (shl1_i (by omega) (by omega)) ?_
      refine V_icmp_ge (pc := 40) 246 C dX9_findCheapest_40 (by decide) (sm_i (by omega)) (sm_i (by omega)) (fun c40 => ?_) (fun c40 => ?_)
      · refine V_iload (pc := 246) C dX9_findCheapest_246 1 rfl ?_
        exact V_iret (pc := 248) C Z dX9_findCheapest_248 (b, G, E) (⟨by rw [← hT, ← (show m = 2 ^ (f 4).toNat by omega)]; exact hf, hG, hb⟩) (ri (by rfl)) rfl
      · have hU9 : ∀ x : Int, 0 ≤ x ∧ x < 6 → m / 2 ^ x.toNat % 2 = 1 → 1 ≤ M6 x := fun x hx hb9 => hU x ⟨hx.1, by by_cases q : x < f 4; exact q; exact absurd (bitI_hi (x := f 4) (j := x) (by omega) c40 (by omega) hP.1) (by show ¬ m / 2 ^ x.toNat % 2 = 0; omega)⟩
        refine V_iconst (pc := 43) C dX9_findCheapest_43 ?_
        refine V_istore (lv' := [(6, .int (iI 0)), (5, .int (iI m)), (4, .int (iI b)), (3, .int (iI T)), (0, .ref o), (1, .int (iI c)), (2, .int (iI L))]) (pc := 44) C dX9_findCheapest_44 (by decide) rfl ?_
        refine V_iconst (pc := 46) C dX9_findCheapest_46 ?_
        refine V_istore (lv' := [(7, .int (iI 1)), (6, .int (iI 0)), (5, .int (iI m)), (4, .int (iI b)), (3, .int (iI T)), (0, .ref o), (1, .int (iI c)), (2, .int (iI L))]) (pc := 47) C dX9_findCheapest_47 (by decide) rfl ?_
        refine V_iconst (pc := 49) C dX9_findCheapest_49 ?_
        refine V_istore (lv' := [(8, .int (iI 0)), (7, .int (iI 1)), (6, .int (iI 0)), (5, .int (iI m)), (4, .int (iI b)), (3, .int (iI T)), (0, .ref o), (1, .int (iI c)), (2, .int (iI L))]) (pc := 50) C dX9_findCheapest_50 (by decide) rfl ?_
        have L52 : ∀ (nn9 : Nat) (j : Int) (s : Int) (a : Int), (0 ≤ j ∧ j ≤ f 4) → (s = sZ (fun x => if bitI m x = 1 then M7 x else 0) j) → (0 ≤ s ∧ s ≤ 99 * j) → (maI (fun x => M10 (4 * x + c)) m (f 4) a j) → (a = 0 ∨ a = 1) → (f 4 - j).toNat < nn9 → V p9 l e9 R9 s9 m9 args9 below9 meth9 c9 A9 D Q9 10 0 0 [(o, .inr (9, fX9 q f)), (q 6, aI (d 0) 6 M6), (q 7, aI (d 0) 6 M7), (q 8, aI (d 0) 4 M8), (q 9, aI (d 0) 4 M9), (q 10, aI (d 1) 24 M10), (q 40, aI (d 0) 7707 G), (q 41, aI (d 0) 6 E)] [(8, .int (iI j)), (6, .int (iI s)), (7, .int (iI a)), (5, .int (iI m)), (4, .int (iI b)), (3, .int (iI T)), (0, .ref o), (1, .int (iI c)), (2, .int (iI L))] 52 [] := by
          intro nn9
          induction nn9 with
          | zero => intro _ _ _ _ _ _ _ _ hm52; exact absurd hm52 (Nat.not_lt_zero _)
          | succ nn9 ih52 =>
            intro j s a hj hs hs2 ha ha1 hm52
            have m7 := hM7 j
            refine V_iload (pc := 52) C dX9_findCheapest_52 0 rfl ?_
            refine V_aload_n (pc := 54) C dX9_findCheapest_54 rfl 6 rfl ?_
            refine gf_X9_120 (x := f 4) (pc := 55) C dX9_findCheapest_55 0 rfl rfl ?_
            refine V_icmp_ge (pc := 58) 129 C dX9_findCheapest_58 (by decide) (sm_i (by omega)) (sm_i (by omega)) (fun c58 => ?_) (fun c58 => ?_)
            · have ej : j = f 4 := by omega
              have ha4 := ha
              rw [ej] at ha4
              refine V_iload (pc := 129) C dX9_findCheapest_129 2 rfl ?_
              refine V_if_eq (pc := 131) 240 C dX9_findCheapest_131 (by decide) (sm_i (by omega)) (fun c131 => ?_) (fun c131 => ?_)
              · refine V_iinc (lv' := [(5, .int (iI (m + 1))), (8, .int (iI j)), (6, .int (iI s)), (7, .int (iI a)), (4, .int (iI b)), (3, .int (iI T)), (0, .ref o), (1, .int (iI c)), (2, .int (iI L))]) (pc := 240) C dX9_findCheapest_240 3 rfl (by decide) rfl ?_
                refine V_goto (pc := 243) 32 C dX9_findCheapest_243 (by decide) ?_
                exact V_sub [0, 4, 5, 6, 7, 8] rfl (ih32 (m + 1) b T G E (by omega) (by omega) (by omega) (by first | exact fc_skip hf (fun ho => absurd ho (maI_f ha4 c131)) | exact fc_skip hf (fun _ e he => by have h8 := he.2; omega) | exact fc_skip hf (fun _ => m9_no hL.1 T0.2 (hR9 0 (by decide)) hU9 hv4 c209) | exact fc_dear p9b.1 hf c216 ((m9_sem hL.1 (hR9 0 (by decide)) hv4) c209).1 (by rw [← hs9]; omega) | exact fc_new p9b.1 hf hm.1 (maI_t ha4 c131) ((m9_sem hL.1 (hR9 0 (by decide)) hv4) c209).1 hx9 (by rw [← hs9]) (by omega) (by first | exact Or.inl c216 | exact Or.inr c223)) (by first | exact bG9 | exact hG) (by omega))
              · refine V_iload_n (pc := 134) C dX9_findCheapest_134 rfl 8 rfl ?_
                refine V_iload_n (pc := 135) C dX9_findCheapest_135 rfl 5 rfl ?_
                refine V_icmp_gt (pc := 136) 240 C dX9_findCheapest_136 (by decide) (sm_i (by omega)) (sm_i (by omega)) (fun c136 => ?_) (fun c136 => ?_)
                · refine V_iinc (lv' := [(5, .int (iI (m + 1))), (8, .int (iI j)), (6, .int (iI s)), (7, .int (iI a)), (4, .int (iI b)), (3, .int (iI T)), (0, .ref o), (1, .int (iI c)), (2, .int (iI L))]) (pc := 240) C dX9_findCheapest_240 3 rfl (by decide) rfl ?_
                  refine V_goto (pc := 243) 32 C dX9_findCheapest_243 (by decide) ?_
                  exact V_sub [0, 4, 5, 6, 7, 8] rfl (ih32 (m + 1) b T G E (by omega) (by omega) (by omega) (by first | exact fc_skip hf (fun ho => absurd ho (maI_f ha4 c131)) | exact fc_skip hf (fun _ e he => by have h8 := he.2; omega) | exact fc_skip hf (fun _ => m9_no hL.1 T0.2 (hR9 0 (by decide)) hU9 hv4 c209) | exact fc_dear p9b.1 hf c216 ((m9_sem hL.1 (hR9 0 (by decide)) hv4) c209).1 (by rw [← hs9]; omega) | exact fc_new p9b.1 hf hm.1 (maI_t ha4 c131) ((m9_sem hL.1 (hR9 0 (by decide)) hv4) c209).1 hx9 (by rw [← hs9]) (by omega) (by first | exact Or.inl c216 | exact Or.inr c223)) (by first | exact bG9 | exact hG) (by omega))
                · refine V_aload_n (pc := 139) C dX9_findCheapest_139 rfl 6 rfl ?_
                  refine V_iload (pc := 140) C dX9_findCheapest_140 3 rfl ?_
                  refine V_iload_n (pc := 142) C dX9_findCheapest_142 rfl 5 rfl ?_
                  refine cv_X9_208 (pc := 143) (rest := []) (wn := fun u => [(o, .inr (9, fX9 q f)), (q 6, aI (d 0) 6 M6), (q 7, aI (d 0) 6 M7), (q 8, aI (d 0) 4 M8), (q 9, aI (d 0) 4 M9), (q 10, aI (d 1) 24 M10), (q 40, aI (d 0) 7707 u), (q 41, aI (d 0) 6 E)]) (sn := fun u => []) C dX9_findCheapest_143 (c_X9_layFew l D d o q f M6 G m T hM6 hG (show 0 ≤ m ∧ m ≤ 63 by omega) (show 0 ≤ T ∧ T ≤ 1100 by omega) hU9) [0, 1, 6] rfl rfl 0 rfl rfl rfl (Nat.le_of_ble_eq_true rfl) ⟨by omega, by omega⟩ ⟨Nat.zero_le _, Nat.zero_le _⟩ (fun u => rfl) (fun u => rfl) (fun u => rfl) ?_
                  rintro G9 hu9
                  obtain ⟨bG9, hR9⟩ := hu9
                  refine V_ldc (n := 99999) (pc := 146) C dX9_findCheapest_146 w4_211 rfl ?_
                  refine V_istore (lv' := [(8, .int (iI 99999)), (6, .int (iI s)), (7, .int (iI a)), (5, .int (iI m)), (4, .int (iI b)), (3, .int (iI T)), (0, .ref o), (1, .int (iI c)), (2, .int (iI L))]) (pc := 148) C dX9_findCheapest_148 (by decide) rfl ?_
                  refine V_iload_n (pc := 150) C dX9_findCheapest_150 rfl 8 rfl ?_
                  refine V_istore (lv' := [(9, .int (iI L)), (8, .int (iI 99999)), (6, .int (iI s)), (7, .int (iI a)), (5, .int (iI m)), (4, .int (iI b)), (3, .int (iI T)), (0, .ref o), (1, .int (iI c)), (2, .int (iI L))]) (pc := 151) C dX9_findCheapest_151 (by decide) rfl ?_
                  have L153 : ∀ (nn9 : Nat) (t : Int) (v : Int), (L ≤ t ∧ t ≤ T + 1) → (lw9 G9 L t v) → (0 ≤ v ∧ v ≤ 99999) → (T + 1 - t).toNat < nn9 → V p9 l e9 R9 s9 m9 args9 below9 meth9 c9 A9 D Q9 10 0 0 [(o, .inr (9, fX9 q f)), (q 6, aI (d 0) 6 M6), (q 7, aI (d 0) 6 M7), (q 8, aI (d 0) 4 M8), (q 9, aI (d 0) 4 M9), (q 10, aI (d 1) 24 M10), (q 40, aI (d 0) 7707 G9), (q 41, aI (d 0) 6 E)] [(9, .int (iI t)), (8, .int (iI v)), (6, .int (iI s)), (7, .int (iI a)), (5, .int (iI m)), (4, .int (iI b)), (3, .int (iI T)), (0, .ref o), (1, .int (iI c)), (2, .int (iI L))] 153 [] := by
                    intro nn9
                    induction nn9 with
                    | zero => intro _ _ _ _ _ hm153; exact absurd hm153 (Nat.not_lt_zero _)
                    | succ nn9 ih153 =>
                      intro t v ht hv hv1 hm153
                      have b9t := bG9 t
                      refine V_iload (pc := 153) C dX9_findCheapest_153 0 rfl ?_
                      refine V_iload_n (pc := 155) C dX9_findCheapest_155 rfl 6 rfl ?_
                      refine V_icmp_gt (pc := 156) 191 C dX9_findCheapest_156 (by decide) (sm_i (by omega)) (sm_i (by omega)) (fun c156 => ?_) (fun c156 => ?_)
                      · have et : t = T + 1 := by omega
                        have hv4 := hv
                        rw [et] at hv4
                        have mb9 := mulb p9b (show 0 ≤ v ∧ v ≤ 99999 by omega)
                        have hs9 : s + M8 c * v = feS M7 m (f 4) + M8 c * v := by rw [hs, ej]; rfl
                        refine V_iload (pc := 191) C dX9_findCheapest_191 2 rfl ?_
                        refine V_aload_n (pc := 193) C dX9_findCheapest_193 rfl 7 rfl ?_
                        refine gf_X9_19 (x := q 8) (pc := 194) C dX9_findCheapest_194 0 rfl rfl ?_
                        refine V_iload_n (pc := 197) C dX9_findCheapest_197 rfl 8 rfl ?_
                        refine V_iald (f := M8) (pc := 198) C dX9_findCheapest_198 3 rfl (by omega) (by omega) (Nat.le_of_ble_eq_true rfl) ?_
                        have b198 := hM8 c
                        refine V_iload (pc := 199) C dX9_findCheapest_199 1 rfl ?_
                        refine V_imul (pc := 201) C dX9_findCheapest_201 ?_
                        refine V_iadd (pc := 202) C dX9_findCheapest_202 ?_
                        refine V_istore (lv' := [(6, .int (iI (s + ((M8 c) * v)))), (9, .int (iI t)), (8, .int (iI v)), (7, .int (iI a)), (5, .int (iI m)), (4, .int (iI b)), (3, .int (iI T)), (0, .ref o), (1, .int (iI c)), (2, .int (iI L))]) (pc := 203) C dX9_findCheapest_203 (by decide) rfl ?_
                        refine V_iload (pc := 205) C dX9_findCheapest_205 2 rfl ?_
                        refine V_ldc (n := 99999) (pc := 207) C dX9_findCheapest_207 w4_211 rfl ?_
                        refine V_icmp_ge (pc := 209) 240 C dX9_findCheapest_209 (by decide) (sm_i (by omega)) (sm_i (by decide)) (fun c209 => ?_) (fun c209 => ?_)
                        · refine V_iinc (lv' := [(5, .int (iI (m + 1))), (6, .int (iI (s + ((M8 c) * v)))), (9, .int (iI t)), (8, .int (iI v)), (7, .int (iI a)), (4, .int (iI b)), (3, .int (iI T)), (0, .ref o), (1, .int (iI c)), (2, .int (iI L))]) (pc := 240) C dX9_findCheapest_240 4 rfl (by decide) rfl ?_
                          refine V_goto (pc := 243) 32 C dX9_findCheapest_243 (by decide) ?_
                          exact V_sub [0, 5, 6, 7, 8, 9] rfl (ih32 (m + 1) b T G9 E (by omega) (by omega) (by omega) (by first | exact fc_skip hf (fun ho => absurd ho (maI_f ha4 c131)) | exact fc_skip hf (fun _ e he => by have h8 := he.2; omega) | exact fc_skip hf (fun _ => m9_no hL.1 T0.2 (hR9 0 (by decide)) hU9 hv4 c209) | exact fc_dear p9b.1 hf c216 ((m9_sem hL.1 (hR9 0 (by decide)) hv4) c209).1 (by rw [← hs9]; omega) | exact fc_new p9b.1 hf hm.1 (maI_t ha4 c131) ((m9_sem hL.1 (hR9 0 (by decide)) hv4) c209).1 hx9 (by rw [← hs9]) (by omega) (by first | exact Or.inl c216 | exact Or.inr c223)) (by first | exact bG9 | exact hG) (by omega))
                        · refine V_iload (pc := 212) C dX9_findCheapest_212 5 rfl ?_
                          refine V_bipush (pc := 214) C dX9_findCheapest_214 rfl ?_
                          refine V_icmp_eq (pc := 216) 226 C dX9_findCheapest_216 (by decide) (sm_i (by omega)) (sm_i (by decide)) (fun c216 => ?_) (fun c216 => ?_)
                          · refine V_iload (pc := 226) C dX9_findCheapest_226 0 rfl ?_
                            refine V_istore (lv' := [(4, .int (iI (s + ((M8 c) * v)))), (6, .int (iI (s + ((M8 c) * v)))), (9, .int (iI t)), (8, .int (iI v)), (7, .int (iI a)), (5, .int (iI m)), (3, .int (iI T)), (0, .ref o), (1, .int (iI c)), (2, .int (iI L))]) (pc := 228) C dX9_findCheapest_228 (by decide) rfl ?_
                            refine V_aload_n (pc := 230) C dX9_findCheapest_230 rfl 7 rfl ?_
                            refine V_iload (pc := 231) C dX9_findCheapest_231 5 rfl ?_
                            refine V_iload (pc := 233) C dX9_findCheapest_233 3 rfl ?_
                            refine V_iload_n (pc := 235) C dX9_findCheapest_235 rfl 9 rfl ?_
                            refine V_iload_n (pc := 236) C dX9_findCheapest_236 rfl 6 rfl ?_
                            refine cv_X9_212 (pc := 237) (rest := []) (wn := fun u => [(o, .inr (9, fX9 q f)), (q 6, aI (d 0) 6 M6), (q 7, aI (d 0) 6 M7), (q 8, aI (d 0) 4 M8), (q 9, aI (d 0) 4 M9), (q 10, aI (d 1) 24 M10), (q 40, aI (d 0) 7707 G9), (q 41, aI (d 0) 6 u)]) (sn := fun u => []) C dX9_findCheapest_237 (c_X9_layWay l D d o q f M6 G9 E m v L T hM6 bG9 (show 0 ≤ m ∧ m ≤ 63 by omega) (show 0 ≤ v ∧ v < 99999 by omega) hL (show 0 ≤ T ∧ T ≤ 1100 by omega) hR9 ((m9_sem hL.1 (hR9 0 (by decide)) hv4) c209).2 ((m9_sem hL.1 (hR9 0 (by decide)) hv4) c209).1) [0, 1, 6, 7] rfl rfl 0 rfl rfl rfl (Nat.le_of_ble_eq_true rfl) ⟨by omega, by omega⟩ ⟨Nat.zero_le _, Nat.zero_le _⟩ (fun u => rfl) (fun u => rfl) (fun u => rfl) ?_
                            rintro E9 hx9
                            refine V_iinc (lv' := [(5, .int (iI (m + 1))), (4, .int (iI (s + ((M8 c) * v)))), (6, .int (iI (s + ((M8 c) * v)))), (9, .int (iI t)), (8, .int (iI v)), (7, .int (iI a)), (3, .int (iI T)), (0, .ref o), (1, .int (iI c)), (2, .int (iI L))]) (pc := 240) C dX9_findCheapest_240 5 rfl (by decide) rfl ?_
                            refine V_goto (pc := 243) 32 C dX9_findCheapest_243 (by decide) ?_
                            exact V_sub [0, 1, 6, 7, 8, 9] rfl (ih32 (m + 1) (s + ((M8 c) * v)) T G9 E9 (by omega) (by omega) (by omega) (by first | exact fc_skip hf (fun ho => absurd ho (maI_f ha4 c131)) | exact fc_skip hf (fun _ e he => by have h8 := he.2; omega) | exact fc_skip hf (fun _ => m9_no hL.1 T0.2 (hR9 0 (by decide)) hU9 hv4 c209) | exact fc_dear p9b.1 hf c216 ((m9_sem hL.1 (hR9 0 (by decide)) hv4) c209).1 (by rw [← hs9]; omega) | exact fc_new p9b.1 hf hm.1 (maI_t ha4 c131) ((m9_sem hL.1 (hR9 0 (by decide)) hv4) c209).1 hx9 (by rw [← hs9]) (by omega) (by first | exact Or.inl c216 | exact Or.inr c223)) (by first | exact bG9 | exact hG) (by omega))
                          · refine V_iload (pc := 219) C dX9_findCheapest_219 0 rfl ?_
                            refine V_iload (pc := 221) C dX9_findCheapest_221 5 rfl ?_
                            refine V_icmp_ge (pc := 223) 240 C dX9_findCheapest_223 (by decide) (sm_i (by omega)) (sm_i (by omega)) (fun c223 => ?_) (fun c223 => ?_)
                            · refine V_iinc (lv' := [(5, .int (iI (m + 1))), (6, .int (iI (s + ((M8 c) * v)))), (9, .int (iI t)), (8, .int (iI v)), (7, .int (iI a)), (4, .int (iI b)), (3, .int (iI T)), (0, .ref o), (1, .int (iI c)), (2, .int (iI L))]) (pc := 240) C dX9_findCheapest_240 4 rfl (by decide) rfl ?_
                              refine V_goto (pc := 243) 32 C dX9_findCheapest_243 (by decide) ?_
                              exact V_sub [0, 5, 6, 7, 8, 9] rfl (ih32 (m + 1) b T G9 E (by omega) (by omega) (by omega) (by first | exact fc_skip hf (fun ho => absurd ho (maI_f ha4 c131)) | exact fc_skip hf (fun _ e he => by have h8 := he.2; omega) | exact fc_skip hf (fun _ => m9_no hL.1 T0.2 (hR9 0 (by decide)) hU9 hv4 c209) | exact fc_dear p9b.1 hf c216 ((m9_sem hL.1 (hR9 0 (by decide)) hv4) c209).1 (by rw [← hs9]; omega) | exact fc_new p9b.1 hf hm.1 (maI_t ha4 c131) ((m9_sem hL.1 (hR9 0 (by decide)) hv4) c209).1 hx9 (by rw [← hs9]) (by omega) (by first | exact Or.inl c216 | exact Or.inr c223)) (by first | exact bG9 | exact hG) (by omega))
                            · refine V_iload (pc := 226) C dX9_findCheapest_226 0 rfl ?_
                              refine V_istore (lv' := [(4, .int (iI (s + ((M8 c) * v)))), (6, .int (iI (s + ((M8 c) * v)))), (9, .int (iI t)), (8, .int (iI v)), (7, .int (iI a)), (5, .int (iI m)), (3, .int (iI T)), (0, .ref o), (1, .int (iI c)), (2, .int (iI L))]) (pc := 228) C dX9_findCheapest_228 (by decide) rfl ?_
                              refine V_aload_n (pc := 230) C dX9_findCheapest_230 rfl 7 rfl ?_
                              refine V_iload (pc := 231) C dX9_findCheapest_231 5 rfl ?_
                              refine V_iload (pc := 233) C dX9_findCheapest_233 3 rfl ?_
                              refine V_iload_n (pc := 235) C dX9_findCheapest_235 rfl 9 rfl ?_
                              refine V_iload_n (pc := 236) C dX9_findCheapest_236 rfl 6 rfl ?_
                              refine cv_X9_212 (pc := 237) (rest := []) (wn := fun u => [(o, .inr (9, fX9 q f)), (q 6, aI (d 0) 6 M6), (q 7, aI (d 0) 6 M7), (q 8, aI (d 0) 4 M8), (q 9, aI (d 0) 4 M9), (q 10, aI (d 1) 24 M10), (q 40, aI (d 0) 7707 G9), (q 41, aI (d 0) 6 u)]) (sn := fun u => []) C dX9_findCheapest_237 (c_X9_layWay l D d o q f M6 G9 E m v L T hM6 bG9 (show 0 ≤ m ∧ m ≤ 63 by omega) (show 0 ≤ v ∧ v < 99999 by omega) hL (show 0 ≤ T ∧ T ≤ 1100 by omega) hR9 ((m9_sem hL.1 (hR9 0 (by decide)) hv4) c209).2 ((m9_sem hL.1 (hR9 0 (by decide)) hv4) c209).1) [0, 1, 6, 7] rfl rfl 0 rfl rfl rfl (Nat.le_of_ble_eq_true rfl) ⟨by omega, by omega⟩ ⟨Nat.zero_le _, Nat.zero_le _⟩ (fun u => rfl) (fun u => rfl) (fun u => rfl) ?_
                              rintro E9 hx9
                              refine V_iinc (lv' := [(5, .int (iI (m + 1))), (4, .int (iI (s + ((M8 c) * v)))), (6, .int (iI (s + ((M8 c) * v)))), (9, .int (iI t)), (8, .int (iI v)), (7, .int (iI a)), (3, .int (iI T)), (0, .ref o), (1, .int (iI c)), (2, .int (iI L))]) (pc := 240) C dX9_findCheapest_240 5 rfl (by decide) rfl ?_
                              refine V_goto (pc := 243) 32 C dX9_findCheapest_243 (by decide) ?_
                              exact V_sub [0, 1, 6, 7, 8, 9] rfl (ih32 (m + 1) (s + ((M8 c) * v)) T G9 E9 (by omega) (by omega) (by omega) (by first | exact fc_skip hf (fun ho => absurd ho (maI_f ha4 c131)) | exact fc_skip hf (fun _ e he => by have h8 := he.2; omega) | exact fc_skip hf (fun _ => m9_no hL.1 T0.2 (hR9 0 (by decide)) hU9 hv4 c209) | exact fc_dear p9b.1 hf c216 ((m9_sem hL.1 (hR9 0 (by decide)) hv4) c209).1 (by rw [← hs9]; omega) | exact fc_new p9b.1 hf hm.1 (maI_t ha4 c131) ((m9_sem hL.1 (hR9 0 (by decide)) hv4) c209).1 hx9 (by rw [← hs9]) (by omega) (by first | exact Or.inl c216 | exact Or.inr c223)) (by first | exact bG9 | exact hG) (by omega))
                      · refine V_aload_n (pc := 159) C dX9_findCheapest_159 rfl 7 rfl ?_
                        refine gf_X9_102 (x := q 40) (pc := 160) C dX9_findCheapest_160 0 rfl rfl ?_
                        refine V_iload (pc := 163) C dX9_findCheapest_163 0 rfl ?_
                        refine V_iald (f := G9) (pc := 165) C dX9_findCheapest_165 6 rfl (by omega) (by omega) (Nat.le_of_ble_eq_true rfl) ?_
                        refine V_iload (pc := 166) C dX9_findCheapest_166 1 rfl ?_
                        refine V_icmp_ge (pc := 168) 181 C dX9_findCheapest_168 (by decide) (sm_i (by omega)) (sm_i (by omega)) (fun c168 => ?_) (fun c168 => ?_)
                        · refine V_iload (pc := 181) C dX9_findCheapest_181 1 rfl ?_
                          refine V_istore (lv' := [(8, .int (iI v)), (9, .int (iI t)), (6, .int (iI s)), (7, .int (iI a)), (5, .int (iI m)), (4, .int (iI b)), (3, .int (iI T)), (0, .ref o), (1, .int (iI c)), (2, .int (iI L))]) (pc := 183) C dX9_findCheapest_183 (by decide) rfl ?_
                          refine V_iinc (lv' := [(9, .int (iI (t + 1))), (8, .int (iI v)), (6, .int (iI s)), (7, .int (iI a)), (5, .int (iI m)), (4, .int (iI b)), (3, .int (iI T)), (0, .ref o), (1, .int (iI c)), (2, .int (iI L))]) (pc := 185) C dX9_findCheapest_185 1 rfl (by decide) rfl ?_
                          refine V_goto (pc := 188) 153 C dX9_findCheapest_188 (by decide) ?_
                          exact V_sub [0, 1, 2, 3, 4, 5, 6, 7, 8, 9] rfl (ih153 (t + 1) v (by omega) (m9_s hv (bG9 t).1 (by omega) (by split <;> omega)) (by omega) (by omega))
                        · refine V_aload_n (pc := 171) C dX9_findCheapest_171 rfl 7 rfl ?_
                          refine gf_X9_102 (x := q 40) (pc := 172) C dX9_findCheapest_172 0 rfl rfl ?_
                          refine V_iload (pc := 175) C dX9_findCheapest_175 0 rfl ?_
                          refine V_iald (f := G9) (pc := 177) C dX9_findCheapest_177 6 rfl (by omega) (by omega) (Nat.le_of_ble_eq_true rfl) ?_
                          refine V_goto (pc := 178) 183 C dX9_findCheapest_178 (by decide) ?_
                          refine V_istore (lv' := [(8, .int (iI (G9 t))), (9, .int (iI t)), (6, .int (iI s)), (7, .int (iI a)), (5, .int (iI m)), (4, .int (iI b)), (3, .int (iI T)), (0, .ref o), (1, .int (iI c)), (2, .int (iI L))]) (pc := 183) C dX9_findCheapest_183 (by decide) rfl ?_
                          refine V_iinc (lv' := [(9, .int (iI (t + 1))), (8, .int (iI (G9 t))), (6, .int (iI s)), (7, .int (iI a)), (5, .int (iI m)), (4, .int (iI b)), (3, .int (iI T)), (0, .ref o), (1, .int (iI c)), (2, .int (iI L))]) (pc := 185) C dX9_findCheapest_185 1 rfl (by decide) rfl ?_
                          refine V_goto (pc := 188) 153 C dX9_findCheapest_188 (by decide) ?_
                          exact V_sub [0, 1, 2, 3, 4, 5, 6, 7, 8, 9] rfl (ih153 (t + 1) (G9 t) (by omega) (m9_s hv (bG9 t).1 (by omega) (by split <;> omega)) (by omega) (by omega))
                  exact V_sub [0, 1, 2, 3, 4, 5, 6, 7, 8, 9] rfl (L153 ((T + 1 - L).toNat + 1) L 99999 (by omega) (m9_0) (by omega) (Nat.lt_succ_self _))
            · refine V_iload (pc := 61) C dX9_findCheapest_61 1 rfl ?_
              refine V_iload (pc := 63) C dX9_findCheapest_63 3 rfl ?_
              refine V_iload (pc := 65) C dX9_findCheapest_65 0 rfl ?_
              refine cs_X9_200 (pc := 67) (rest := [.int (iI s)]) (wn := fun _ => [(o, .inr (9, fX9 q f)), (q 6, aI (d 0) 6 M6), (q 7, aI (d 0) 6 M7), (q 8, aI (d 0) 4 M8), (q 9, aI (d 0) 4 M9), (q 10, aI (d 1) 24 M10), (q 40, aI (d 0) 7707 G), (q 41, aI (d 0) 6 E)]) (sn := fun _ => [.int (iI (bI (m / 2 ^ j.toNat % 2 = 1))), .int (iI s)]) C dX9_findCheapest_67 (c_X9_has l D d m j (show 0 ≤ m ∧ m ≤ 2147483647 by omega) (show 0 ≤ j ∧ j ≤ 31 by omega)) [] rfl rfl rfl rfl (Nat.le_of_ble_eq_true rfl) ⟨by omega, by omega⟩ ⟨Nat.zero_le _, Nat.zero_le _⟩ (fun _ => rfl) (fun _ => rfl) (fun _ => rfl) ?_
              intro _ _
              refine V_ifb_eq (pc := 70) 83 C dX9_findCheapest_70 (by decide) (fun c70 => ?_) (fun c70 => ?_)
              · refine V_iconst (pc := 83) C dX9_findCheapest_83 ?_
                refine V_iadd (pc := 84) C dX9_findCheapest_84 ?_
                refine V_istore (lv' := [(6, .int (iI (s + 0))), (8, .int (iI j)), (7, .int (iI a)), (5, .int (iI m)), (4, .int (iI b)), (3, .int (iI T)), (0, .ref o), (1, .int (iI c)), (2, .int (iI L))]) (pc := 85) C dX9_findCheapest_85 (by decide) rfl ?_
                refine V_iload (pc := 87) C dX9_findCheapest_87 2 rfl ?_
                refine V_if_eq (pc := 89) 120 C dX9_findCheapest_89 (by decide) (sm_i (by omega)) (fun c89 => ?_) (fun c89 => ?_)
                · refine V_iconst (pc := 120) C dX9_findCheapest_120 ?_
                  refine V_istore (lv' := [(7, .int (iI 0)), (6, .int (iI (s + 0))), (8, .int (iI j)), (5, .int (iI m)), (4, .int (iI b)), (3, .int (iI T)), (0, .ref o), (1, .int (iI c)), (2, .int (iI L))]) (pc := 121) C dX9_findCheapest_121 (by decide) rfl ?_
                  refine V_iinc (lv' := [(8, .int (iI (j + 1))), (7, .int (iI 0)), (6, .int (iI (s + 0))), (5, .int (iI m)), (4, .int (iI b)), (3, .int (iI T)), (0, .ref o), (1, .int (iI c)), (2, .int (iI L))]) (pc := 123) C dX9_findCheapest_123 2 rfl (by decide) rfl ?_
                  refine V_goto (pc := 126) 52 C dX9_findCheapest_126 (by decide) ?_
                  exact V_sub [0, 2, 1, 3, 4, 5, 6, 7, 8] rfl (ih52 (j + 1) (s + 0) 0 (by omega) (by rw [hs, sZ_s _ hj.1]; show _ = _ + (if m / 2 ^ j.toNat % 2 = 1 then M7 j else 0); first | rw [if_pos c70] | rw [if_neg c70]) (by omega) (by first | exact maI_no ha c89 | exact maI_yes ha c89 (fun q => absurd q c99) | exact maI_yes ha c89 (fun _ => c113) | exact maI_bar (by omega) c99 c113) (by omega) (by omega))
                · refine V_iload (pc := 92) C dX9_findCheapest_92 3 rfl ?_
                  refine V_iload (pc := 94) C dX9_findCheapest_94 1 rfl ?_
                  refine cs_X9_200 (pc := 96) (rest := []) (wn := fun _ => [(o, .inr (9, fX9 q f)), (q 6, aI (d 0) 6 M6), (q 7, aI (d 0) 6 M7), (q 8, aI (d 0) 4 M8), (q 9, aI (d 0) 4 M9), (q 10, aI (d 1) 24 M10), (q 40, aI (d 0) 7707 G), (q 41, aI (d 0) 6 E)]) (sn := fun _ => [.int (iI (bI (m / 2 ^ j.toNat % 2 = 1)))]) C dX9_findCheapest_96 (c_X9_has l D d m j (show 0 ≤ m ∧ m ≤ 2147483647 by omega) (show 0 ≤ j ∧ j ≤ 31 by omega)) [] rfl rfl rfl rfl (Nat.le_of_ble_eq_true rfl) ⟨by omega, by omega⟩ ⟨Nat.zero_le _, Nat.zero_le _⟩ (fun _ => rfl) (fun _ => rfl) (fun _ => rfl) ?_
                  intro _ _
                  refine V_ifb_eq (pc := 99) 116 C dX9_findCheapest_99 (by decide) (fun c99 => ?_) (fun c99 => ?_)
                  · refine V_iconst (pc := 116) C dX9_findCheapest_116 ?_
                    refine V_goto (pc := 117) 121 C dX9_findCheapest_117 (by decide) ?_
                    refine V_istore (lv' := [(7, .int (iI 1)), (6, .int (iI (s + 0))), (8, .int (iI j)), (5, .int (iI m)), (4, .int (iI b)), (3, .int (iI T)), (0, .ref o), (1, .int (iI c)), (2, .int (iI L))]) (pc := 121) C dX9_findCheapest_121 (by decide) rfl ?_
                    refine V_iinc (lv' := [(8, .int (iI (j + 1))), (7, .int (iI 1)), (6, .int (iI (s + 0))), (5, .int (iI m)), (4, .int (iI b)), (3, .int (iI T)), (0, .ref o), (1, .int (iI c)), (2, .int (iI L))]) (pc := 123) C dX9_findCheapest_123 2 rfl (by decide) rfl ?_
                    refine V_goto (pc := 126) 52 C dX9_findCheapest_126 (by decide) ?_
                    exact V_sub [0, 2, 1, 3, 4, 5, 6, 7, 8] rfl (ih52 (j + 1) (s + 0) 1 (by omega) (by rw [hs, sZ_s _ hj.1]; show _ = _ + (if m / 2 ^ j.toNat % 2 = 1 then M7 j else 0); first | rw [if_pos c70] | rw [if_neg c70]) (by omega) (by first | exact maI_no ha c89 | exact maI_yes ha c89 (fun q => absurd q c99) | exact maI_yes ha c89 (fun _ => c113) | exact maI_bar (by omega) c99 c113) (by omega) (by omega))
                  · refine V_aload_n (pc := 102) C dX9_findCheapest_102 rfl 6 rfl ?_
                    refine gf_X9_25 (x := q 10) (pc := 103) C dX9_findCheapest_103 0 rfl rfl ?_
                    refine V_iconst (pc := 106) C dX9_findCheapest_106 ?_
                    refine V_iload (pc := 107) C dX9_findCheapest_107 1 rfl ?_
                    refine V_imul (pc := 109) C dX9_findCheapest_109 ?_
                    refine V_iload_n (pc := 110) C dX9_findCheapest_110 rfl 7 rfl ?_
                    refine V_iadd (pc := 111) C dX9_findCheapest_111 ?_
                    refine V_zald (f := M10) (pc := 112) C dX9_findCheapest_112 5 rfl (by omega) (by omega) (Nat.le_of_ble_eq_true rfl) ?_
                    have b112 := hM10 ((4 * j) + c)
                    refine V_if_ne (pc := 113) 120 C dX9_findCheapest_113 (by decide) (sm_i (by omega)) (fun c113 => ?_) (fun c113 => ?_)
                    · refine V_iconst (pc := 120) C dX9_findCheapest_120 ?_
                      refine V_istore (lv' := [(7, .int (iI 0)), (6, .int (iI (s + 0))), (8, .int (iI j)), (5, .int (iI m)), (4, .int (iI b)), (3, .int (iI T)), (0, .ref o), (1, .int (iI c)), (2, .int (iI L))]) (pc := 121) C dX9_findCheapest_121 (by decide) rfl ?_
                      refine V_iinc (lv' := [(8, .int (iI (j + 1))), (7, .int (iI 0)), (6, .int (iI (s + 0))), (5, .int (iI m)), (4, .int (iI b)), (3, .int (iI T)), (0, .ref o), (1, .int (iI c)), (2, .int (iI L))]) (pc := 123) C dX9_findCheapest_123 2 rfl (by decide) rfl ?_
                      refine V_goto (pc := 126) 52 C dX9_findCheapest_126 (by decide) ?_
                      exact V_sub [0, 2, 1, 3, 4, 5, 6, 7, 8] rfl (ih52 (j + 1) (s + 0) 0 (by omega) (by rw [hs, sZ_s _ hj.1]; show _ = _ + (if m / 2 ^ j.toNat % 2 = 1 then M7 j else 0); first | rw [if_pos c70] | rw [if_neg c70]) (by omega) (by first | exact maI_no ha c89 | exact maI_yes ha c89 (fun q => absurd q c99) | exact maI_yes ha c89 (fun _ => c113) | exact maI_bar (by omega) c99 c113) (by omega) (by omega))
                    · refine V_iconst (pc := 116) C dX9_findCheapest_116 ?_
                      refine V_goto (pc := 117) 121 C dX9_findCheapest_117 (by decide) ?_
                      refine V_istore (lv' := [(7, .int (iI 1)), (6, .int (iI (s + 0))), (8, .int (iI j)), (5, .int (iI m)), (4, .int (iI b)), (3, .int (iI T)), (0, .ref o), (1, .int (iI c)), (2, .int (iI L))]) (pc := 121) C dX9_findCheapest_121 (by decide) rfl ?_
                      refine V_iinc (lv' := [(8, .int (iI (j + 1))), (7, .int (iI 1)), (6, .int (iI (s + 0))), (5, .int (iI m)), (4, .int (iI b)), (3, .int (iI T)), (0, .ref o), (1, .int (iI c)), (2, .int (iI L))]) (pc := 123) C dX9_findCheapest_123 2 rfl (by decide) rfl ?_
                      refine V_goto (pc := 126) 52 C dX9_findCheapest_126 (by decide) ?_
                      exact V_sub [0, 2, 1, 3, 4, 5, 6, 7, 8] rfl (ih52 (j + 1) (s + 0) 1 (by omega) (by rw [hs, sZ_s _ hj.1]; show _ = _ + (if m / 2 ^ j.toNat % 2 = 1 then M7 j else 0); first | rw [if_pos c70] | rw [if_neg c70]) (by omega) (by first | exact maI_no ha c89 | exact maI_yes ha c89 (fun q => absurd q c99) | exact maI_yes ha c89 (fun _ => c113) | exact maI_bar (by omega) c99 c113) (by omega) (by omega))
              · refine V_aload_n (pc := 73) C dX9_findCheapest_73 rfl 6 rfl ?_
                refine gf_X9_16 (x := q 7) (pc := 74) C dX9_findCheapest_74 0 rfl rfl ?_
                refine V_iload (pc := 77) C dX9_findCheapest_77 0 rfl ?_
                refine V_iald (f := M7) (pc := 79) C dX9_findCheapest_79 2 rfl (by omega) (by omega) (Nat.le_of_ble_eq_true rfl) ?_
                have b79 := hM7 j
                refine V_goto (pc := 80) 84 C dX9_findCheapest_80 (by decide) ?_
                refine V_iadd (pc := 84) C dX9_findCheapest_84 ?_
                refine V_istore (lv' := [(6, .int (iI (s + (M7 j)))), (8, .int (iI j)), (7, .int (iI a)), (5, .int (iI m)), (4, .int (iI b)), (3, .int (iI T)), (0, .ref o), (1, .int (iI c)), (2, .int (iI L))]) (pc := 85) C dX9_findCheapest_85 (by decide) rfl ?_
                refine V_iload (pc := 87) C dX9_findCheapest_87 2 rfl ?_
                refine V_if_eq (pc := 89) 120 C dX9_findCheapest_89 (by decide) (sm_i (by omega)) (fun c89 => ?_) (fun c89 => ?_)
                · refine V_iconst (pc := 120) C dX9_findCheapest_120 ?_
                  refine V_istore (lv' := [(7, .int (iI 0)), (6, .int (iI (s + (M7 j)))), (8, .int (iI j)), (5, .int (iI m)), (4, .int (iI b)), (3, .int (iI T)), (0, .ref o), (1, .int (iI c)), (2, .int (iI L))]) (pc := 121) C dX9_findCheapest_121 (by decide) rfl ?_
                  refine V_iinc (lv' := [(8, .int (iI (j + 1))), (7, .int (iI 0)), (6, .int (iI (s + (M7 j)))), (5, .int (iI m)), (4, .int (iI b)), (3, .int (iI T)), (0, .ref o), (1, .int (iI c)), (2, .int (iI L))]) (pc := 123) C dX9_findCheapest_123 2 rfl (by decide) rfl ?_
                  refine V_goto (pc := 126) 52 C dX9_findCheapest_126 (by decide) ?_
                  exact V_sub [0, 2, 1, 3, 4, 5, 6, 7, 8] rfl (ih52 (j + 1) (s + (M7 j)) 0 (by omega) (by rw [hs, sZ_s _ hj.1]; show _ = _ + (if m / 2 ^ j.toNat % 2 = 1 then M7 j else 0); first | rw [if_pos c70] | rw [if_neg c70]) (by omega) (by first | exact maI_no ha c89 | exact maI_yes ha c89 (fun q => absurd q c99) | exact maI_yes ha c89 (fun _ => c113) | exact maI_bar (by omega) c99 c113) (by omega) (by omega))
                · refine V_iload (pc := 92) C dX9_findCheapest_92 3 rfl ?_
                  refine V_iload (pc := 94) C dX9_findCheapest_94 1 rfl ?_
                  refine cs_X9_200 (pc := 96) (rest := []) (wn := fun _ => [(o, .inr (9, fX9 q f)), (q 6, aI (d 0) 6 M6), (q 7, aI (d 0) 6 M7), (q 8, aI (d 0) 4 M8), (q 9, aI (d 0) 4 M9), (q 10, aI (d 1) 24 M10), (q 40, aI (d 0) 7707 G), (q 41, aI (d 0) 6 E)]) (sn := fun _ => [.int (iI (bI (m / 2 ^ j.toNat % 2 = 1)))]) C dX9_findCheapest_96 (c_X9_has l D d m j (show 0 ≤ m ∧ m ≤ 2147483647 by omega) (show 0 ≤ j ∧ j ≤ 31 by omega)) [] rfl rfl rfl rfl (Nat.le_of_ble_eq_true rfl) ⟨by omega, by omega⟩ ⟨Nat.zero_le _, Nat.zero_le _⟩ (fun _ => rfl) (fun _ => rfl) (fun _ => rfl) ?_
                  intro _ _
                  refine V_ifb_eq (pc := 99) 116 C dX9_findCheapest_99 (by decide) (fun c99 => ?_) (fun c99 => ?_)
                  · refine V_iconst (pc := 116) C dX9_findCheapest_116 ?_
                    refine V_goto (pc := 117) 121 C dX9_findCheapest_117 (by decide) ?_
                    refine V_istore (lv' := [(7, .int (iI 1)), (6, .int (iI (s + (M7 j)))), (8, .int (iI j)), (5, .int (iI m)), (4, .int (iI b)), (3, .int (iI T)), (0, .ref o), (1, .int (iI c)), (2, .int (iI L))]) (pc := 121) C dX9_findCheapest_121 (by decide) rfl ?_
                    refine V_iinc (lv' := [(8, .int (iI (j + 1))), (7, .int (iI 1)), (6, .int (iI (s + (M7 j)))), (5, .int (iI m)), (4, .int (iI b)), (3, .int (iI T)), (0, .ref o), (1, .int (iI c)), (2, .int (iI L))]) (pc := 123) C dX9_findCheapest_123 2 rfl (by decide) rfl ?_
                    refine V_goto (pc := 126) 52 C dX9_findCheapest_126 (by decide) ?_
                    exact V_sub [0, 2, 1, 3, 4, 5, 6, 7, 8] rfl (ih52 (j + 1) (s + (M7 j)) 1 (by omega) (by rw [hs, sZ_s _ hj.1]; show _ = _ + (if m / 2 ^ j.toNat % 2 = 1 then M7 j else 0); first | rw [if_pos c70] | rw [if_neg c70]) (by omega) (by first | exact maI_no ha c89 | exact maI_yes ha c89 (fun q => absurd q c99) | exact maI_yes ha c89 (fun _ => c113) | exact maI_bar (by omega) c99 c113) (by omega) (by omega))
                  · refine V_aload_n (pc := 102) C dX9_findCheapest_102 rfl 6 rfl ?_
                    refine gf_X9_25 (x := q 10) (pc := 103) C dX9_findCheapest_103 0 rfl rfl ?_
                    refine V_iconst (pc := 106) C dX9_findCheapest_106 ?_
                    refine V_iload (pc := 107) C dX9_findCheapest_107 1 rfl ?_
                    refine V_imul (pc := 109) C dX9_findCheapest_109 ?_
                    refine V_iload_n (pc := 110) C dX9_findCheapest_110 rfl 7 rfl ?_
                    refine V_iadd (pc := 111) C dX9_findCheapest_111 ?_
                    refine V_zald (f := M10) (pc := 112) C dX9_findCheapest_112 5 rfl (by omega) (by omega) (Nat.le_of_ble_eq_true rfl) ?_
                    have b112 := hM10 ((4 * j) + c)
                    refine V_if_ne (pc := 113) 120 C dX9_findCheapest_113 (by decide) (sm_i (by omega)) (fun c113 => ?_) (fun c113 => ?_)
                    · refine V_iconst (pc := 120) C dX9_findCheapest_120 ?_
                      refine V_istore (lv' := [(7, .int (iI 0)), (6, .int (iI (s + (M7 j)))), (8, .int (iI j)), (5, .int (iI m)), (4, .int (iI b)), (3, .int (iI T)), (0, .ref o), (1, .int (iI c)), (2, .int (iI L))]) (pc := 121) C dX9_findCheapest_121 (by decide) rfl ?_
                      refine V_iinc (lv' := [(8, .int (iI (j + 1))), (7, .int (iI 0)), (6, .int (iI (s + (M7 j)))), (5, .int (iI m)), (4, .int (iI b)), (3, .int (iI T)), (0, .ref o), (1, .int (iI c)), (2, .int (iI L))]) (pc := 123) C dX9_findCheapest_123 2 rfl (by decide) rfl ?_
                      refine V_goto (pc := 126) 52 C dX9_findCheapest_126 (by decide) ?_
                      exact V_sub [0, 2, 1, 3, 4, 5, 6, 7, 8] rfl (ih52 (j + 1) (s + (M7 j)) 0 (by omega) (by rw [hs, sZ_s _ hj.1]; show _ = _ + (if m / 2 ^ j.toNat % 2 = 1 then M7 j else 0); first | rw [if_pos c70] | rw [if_neg c70]) (by omega) (by first | exact maI_no ha c89 | exact maI_yes ha c89 (fun q => absurd q c99) | exact maI_yes ha c89 (fun _ => c113) | exact maI_bar (by omega) c99 c113) (by omega) (by omega))
                    · refine V_iconst (pc := 116) C dX9_findCheapest_116 ?_
                      refine V_goto (pc := 117) 121 C dX9_findCheapest_117 (by decide) ?_
                      refine V_istore (lv' := [(7, .int (iI 1)), (6, .int (iI (s + (M7 j)))), (8, .int (iI j)), (5, .int (iI m)), (4, .int (iI b)), (3, .int (iI T)), (0, .ref o), (1, .int (iI c)), (2, .int (iI L))]) (pc := 121) C dX9_findCheapest_121 (by decide) rfl ?_
                      refine V_iinc (lv' := [(8, .int (iI (j + 1))), (7, .int (iI 1)), (6, .int (iI (s + (M7 j)))), (5, .int (iI m)), (4, .int (iI b)), (3, .int (iI T)), (0, .ref o), (1, .int (iI c)), (2, .int (iI L))]) (pc := 123) C dX9_findCheapest_123 2 rfl (by decide) rfl ?_
                      refine V_goto (pc := 126) 52 C dX9_findCheapest_126 (by decide) ?_
                      exact V_sub [0, 2, 1, 3, 4, 5, 6, 7, 8] rfl (ih52 (j + 1) (s + (M7 j)) 1 (by omega) (by rw [hs, sZ_s _ hj.1]; show _ = _ + (if m / 2 ^ j.toNat % 2 = 1 then M7 j else 0); first | rw [if_pos c70] | rw [if_neg c70]) (by omega) (by first | exact maI_no ha c89 | exact maI_yes ha c89 (fun q => absurd q c99) | exact maI_yes ha c89 (fun _ => c113) | exact maI_bar (by omega) c99 c113) (by omega) (by omega))
        exact V_sub [0, 2, 1, 3, 4, 5, 6, 7, 8] rfl (L52 ((f 4 - 0).toNat + 1) 0 0 1 (by omega) (rfl) (by omega) (maI_0) (by omega) (Nat.lt_succ_self _))
  refine V_aload_n (pc := 0) C dX9_findCheapest_0 rfl 0 rfl ?_
  refine gf_X9_22 (x := q 9) (pc := 1) C dX9_findCheapest_1 0 rfl rfl ?_
  refine V_iload_n (pc := 4) C dX9_findCheapest_4 rfl 1 rfl ?_
  refine V_iald (f := M9) (pc := 5) C dX9_findCheapest_5 4 rfl (by omega) (by omega) (Nat.le_of_ble_eq_true rfl) ?_
  have b5 := hM9 c
  refine V_sipush (pc := 6) C dX9_findCheapest_6 rfl ?_
  refine V_icmp_ge (pc := 9) 21 C dX9_findCheapest_9 (by decide) (sm_i (by omega)) (sm_i (by decide)) (fun c9 => ?_) (fun c9 => ?_)
  · refine V_sipush (pc := 21) C dX9_findCheapest_21 rfl ?_
    refine V_istore_n (lv' := [(3, .int (iI 1100)), (0, .ref o), (1, .int (iI c)), (2, .int (iI L))]) (pc := 24) C dX9_findCheapest_24 rfl (by decide) rfl ?_
    refine V_bipush (pc := 25) C dX9_findCheapest_25 rfl ?_
    refine V_istore (lv' := [(4, .int (iI (-9))), (3, .int (iI 1100)), (0, .ref o), (1, .int (iI c)), (2, .int (iI L))]) (pc := 27) C dX9_findCheapest_27 (by decide) rfl ?_
    refine V_iconst (pc := 29) C dX9_findCheapest_29 ?_
    refine V_istore (lv' := [(5, .int (iI 1)), (4, .int (iI (-9))), (3, .int (iI 1100)), (0, .ref o), (1, .int (iI c)), (2, .int (iI L))]) (pc := 30) C dX9_findCheapest_30 (by decide) rfl ?_
    exact V_sub [0, 1, 2, 3, 4, 5] rfl (L32 (Int.toNat (2 ^ (f 4).toNat - 1) + 1) 1 (-9) 1100 M40 M41 (by omega) (by omega) (by omega) (fc_1) (hM40) (Nat.lt_succ_self _))
  · refine V_aload_n (pc := 12) C dX9_findCheapest_12 rfl 0 rfl ?_
    refine gf_X9_22 (x := q 9) (pc := 13) C dX9_findCheapest_13 0 rfl rfl ?_
    refine V_iload_n (pc := 16) C dX9_findCheapest_16 rfl 1 rfl ?_
    refine V_iald (f := M9) (pc := 17) C dX9_findCheapest_17 4 rfl (by omega) (by omega) (Nat.le_of_ble_eq_true rfl) ?_
    have b17 := hM9 c
    refine V_goto (pc := 18) 24 C dX9_findCheapest_18 (by decide) ?_
    refine V_istore_n (lv' := [(3, .int (iI (M9 c))), (0, .ref o), (1, .int (iI c)), (2, .int (iI L))]) (pc := 24) C dX9_findCheapest_24 rfl (by decide) rfl ?_
    refine V_bipush (pc := 25) C dX9_findCheapest_25 rfl ?_
    refine V_istore (lv' := [(4, .int (iI (-9))), (3, .int (iI (M9 c))), (0, .ref o), (1, .int (iI c)), (2, .int (iI L))]) (pc := 27) C dX9_findCheapest_27 (by decide) rfl ?_
    refine V_iconst (pc := 29) C dX9_findCheapest_29 ?_
    refine V_istore (lv' := [(5, .int (iI 1)), (4, .int (iI (-9))), (3, .int (iI (M9 c))), (0, .ref o), (1, .int (iI c)), (2, .int (iI L))]) (pc := 30) C dX9_findCheapest_30 (by decide) rfl ?_
    exact V_sub [0, 1, 2, 3, 4, 5] rfl (L32 (Int.toNat (2 ^ (f 4).toNat - 1) + 1) 1 (-9) (M9 c) M40 M41 (by omega) (by omega) (by omega) (fc_1) (hM40) (Nat.lt_succ_self _))
