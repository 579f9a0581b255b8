set_option maxRecDepth 100000 in
set_option maxHeartbeats 4000000 in
theorem law_write {p : Program} {l : Launch} {e : Env} {s : State} {m : MethodId} {args : Array Value} {below : List Frame} {meth : Method} {c : Code} {A : Nat → Prop} {D : va_G} {d : Nat → ClassId} {Q : State → Prop} {bs L : Nat} {xs : Nat → Int32} {b : Nat → Nat} {a : Nat → Nat → Nat} {sl rw : Nat → Option Nat} {g : Nat → Nat → Int} {G : Nat → Nat → Int → Int} {i : Int} (C : CX p s m args c D d cL_law 4 RL) (X : SX s A bs L xs) (hi : 0 ≤ i ∧ i + 5 < L) (hJ : JJ b a sl rw g G)
    (kk : ∀ (a' : Nat → Nat → Nat) (g' : Nat → Nat → Int) (G' : Nat → Nat → Int → Int), JJ b a' sl rw g' G' → V p l e room_1 s m args below meth c A D Q 4 98 19494 (lawW d b a' sl rw g' G') [(3, .int (iI i)), (2, .ref (b 9)), (1, .ref (b 8)), (0, .ref bs)] 1337 []) : V p l e room_1 s m args below meth c A D Q 4 98 19494 (lawW d b a sl rw g G) [(3, .int (iI i)), (2, .ref (b 9)), (1, .ref (b 8)), (0, .ref bs)] 184 [] := by
  obtain ⟨j1, j2, j3, j4, j5, j5', j6, j7, j8, j10⟩ := hJ
  obtain ⟨vv, evv⟩ : ∃ w : Int, w = ((lI (xz xs (i + 2)) <<< ((iI 32).toInt64 &&& 63)) ||| (lI (xz xs (i + 3)) &&& lI 4294967295)).toInt := ⟨_, rfl⟩
  have hvv : sL vv := by rw [evv]; exact sL_of _
  refine V_aload_n (pc := 184) C dL_law_184 rfl 2 rfl ?_
  refine V_aload_n (pc := 185) C dL_law_185 rfl 3 rfl ?_
  refine V_iload_n (pc := 186) C dL_law_186 rfl 0 rfl ?_
  refine V_iconst (pc := 187) C dL_law_187 ?_
  refine V_iadd (pc := 188) C dL_law_188 ?_
  refine V_sld (pc := 189) X C dL_law_189 (by omega) (by omega) ?_
  refine V_aload_n (pc := 190) C dL_law_190 rfl 3 rfl ?_
  refine V_iload_n (pc := 191) C dL_law_191 rfl 0 rfl ?_
  refine V_iconst (pc := 192) C dL_law_192 ?_
  refine V_iadd (pc := 193) C dL_law_193 ?_
  refine V_sld (pc := 194) X C dL_law_194 (by omega) (by omega) ?_
  refine V_i2l (pc := 195) C dL_law_195 (xz_sm xs _) ?_
  refine V_bipush (pc := 196) C dL_law_196 rfl ?_
  refine V_lshl' (pc := 198) C dL_law_198 ?_
  refine V_aload_n (pc := 199) C dL_law_199 rfl 3 rfl ?_
  refine V_iload_n (pc := 200) C dL_law_200 rfl 0 rfl ?_
  refine V_iconst (pc := 201) C dL_law_201 ?_
  refine V_iadd (pc := 202) C dL_law_202 ?_
  refine V_sld (pc := 203) X C dL_law_203 (by omega) (by omega) ?_
  refine V_i2l (pc := 204) C dL_law_204 (xz_sm xs _) ?_
  refine V_ldc2 (n := 4294967295) (pc := 205) C dL_law_205 w5_91 rfl ?_
  refine V_land' (pc := 208) C dL_law_208 ?_
  refine V_lor' (pc := 209) C dL_law_209 ?_
  refine V_wl C evv ?_
  refine cv_L_15 (pc := 210) (rest := []) (wn := fun u9 => lawW d b a sl rw (up g 4 (up (g 4) 1 u9.2.1)) (up G 4 (up (G 4) 0 u9.2.2))) (sn := fun u9 => [.int (iI (u9.1))]) C dL_law_210 (c_X8_write l D d (b 8) (a 8) (g 8) (a 4) (g 4) (G 4 0) (xz xs (i + 1)) vv j1.2.2.1 (xz_sm xs _) hvv) [0, 1, 2] rfl rfl 0 rfl rfl rfl (Nat.le_of_ble_eq_true rfl) ⟨Nat.le_of_ble_eq_true rfl, Nat.le_of_ble_eq_true rfl⟩ ⟨Nat.le_of_ble_eq_true rfl, Nat.le_of_ble_eq_true rfl⟩ (fun u9 => rfl) (fun u9 => by simp only [lawW, wput, List.zip_cons_cons, List.zip_nil_right, List.foldl_cons, List.foldl_nil, List.set_cons_succ, List.set_cons_zero, up, reduceIte, Nat.reduceEqDiff, Nat.reduceSub]) (fun u9 => rfl) ?_
  rintro u hu
  refine V_aload_n (pc := 213) C dL_law_213 rfl 1 rfl ?_
  refine V_aload_n (pc := 214) C dL_law_214 rfl 3 rfl ?_
  refine V_iload_n (pc := 215) C dL_law_215 rfl 0 rfl ?_
  refine V_iconst (pc := 216) C dL_law_216 ?_
  refine V_iadd (pc := 217) C dL_law_217 ?_
  refine V_sld (pc := 218) X C dL_law_218 (by omega) (by omega) ?_
  refine V_aload_n (pc := 219) C dL_law_219 rfl 3 rfl ?_
  refine V_iload_n (pc := 220) C dL_law_220 rfl 0 rfl ?_
  refine V_iconst (pc := 221) C dL_law_221 ?_
  refine V_iadd (pc := 222) C dL_law_222 ?_
  refine V_sld (pc := 223) X C dL_law_223 (by omega) (by omega) ?_
  refine V_i2l (pc := 224) C dL_law_224 (xz_sm xs _) ?_
  refine V_bipush (pc := 225) C dL_law_225 rfl ?_
  refine V_lshl' (pc := 227) C dL_law_227 ?_
  refine V_aload_n (pc := 228) C dL_law_228 rfl 3 rfl ?_
  refine V_iload_n (pc := 229) C dL_law_229 rfl 0 rfl ?_
  refine V_iconst (pc := 230) C dL_law_230 ?_
  refine V_iadd (pc := 231) C dL_law_231 ?_
  refine V_sld (pc := 232) X C dL_law_232 (by omega) (by omega) ?_
  refine V_i2l (pc := 233) C dL_law_233 (xz_sm xs _) ?_
  refine V_ldc2 (n := 4294967295) (pc := 234) C dL_law_234 w5_91 rfl ?_
  refine V_land' (pc := 237) C dL_law_237 ?_
  refine V_lor' (pc := 238) C dL_law_238 ?_
  refine V_wl C evv ?_
  refine cv_L_19 (pc := 239) (rest := [.int (iI (u.1))]) (wn := fun u9 => lawW d b a sl rw (up (up g 4 (up (g 4) 1 u.2.1)) 9 (up (up (g 9) 0 0) 2 u9.2.1)) (up (up G 4 (up (G 4) 0 u.2.2)) 9 (up (G 9) 1 u9.2.2))) (sn := fun u9 => [.int (iI (u9.1)), .int (iI (u.1))]) C dL_law_239 (c_X9_write l D d (b 9) (a 9) (g 9) (G 9 1) (xz xs (i + 1)) vv (by rw [← j1.1]; exact j1.2.2.1) (xz_sm xs _) hvv) [63, 64] rfl rfl 63 rfl rfl rfl (Nat.le_of_ble_eq_true rfl) ⟨Nat.le_of_ble_eq_true rfl, Nat.le_of_ble_eq_true rfl⟩ ⟨Nat.le_of_ble_eq_true rfl, Nat.le_of_ble_eq_true rfl⟩ (fun u9 => rfl) (fun u9 => by simp only [lawW, wput, List.zip_cons_cons, List.zip_nil_right, List.foldl_cons, List.foldl_nil, List.set_cons_succ, List.set_cons_zero, up, reduceIte, Nat.reduceEqDiff, Nat.reduceSub]) (fun u9 => rfl) ?_
  rintro v hv
  have key := s_write j1 hu hv
  exact V_icmp_same (pc := 242) 1337 C dL_law_242 (by decide) (key.1) (kk a (up (up g 4 (up (g 4) 1 u.2.1)) 9 (up (up (g 9) 0 0) 2 v.2.1)) (up (up G 4 (up (G 4) 0 u.2.2)) 9 (up (G 9) 1 v.2.2)) ⟨key.2, j2, j3, j4, j5, j5', j6, j7, j8, j10⟩)
set_option maxRecDepth 100000 in
set_option maxHeartbeats 4000000 in
theorem law_wipe {p : Program} {l : Launch} {e : Env} {s : State} {m : MethodId} {args : Array Value} {below : List Frame} {meth : Method} {c : Code} {A : Nat → Prop} {D : va_G} {d : Nat → ClassId} {Q : State → Prop} {bs L : Nat} {xs : Nat → Int32} {b : Nat → Nat} {a : Nat → Nat → Nat} {sl rw : Nat → Option Nat} {g : Nat → Nat → Int} {G : Nat → Nat → Int → Int} {i : Int} (C : CX p s m args c D d cL_law 4 RL) (X : SX s A bs L xs) (hi : 0 ≤ i ∧ i + 5 < L) (hJ : JJ b a sl rw g G)
    (kk : ∀ (a' : Nat → Nat → Nat) (g' : Nat → Nat → Int) (G' : Nat → Nat → Int → Int), JJ b a' sl rw g' G' → V p l e room_1 s m args below meth c A D Q 4 98 19494 (lawW d b a' sl rw g' G') [(3, .int (iI i)), (2, .ref (b 9)), (1, .ref (b 8)), (0, .ref bs)] 1337 []) : V p l e room_1 s m args below meth c A D Q 4 98 19494 (lawW d b a sl rw g G) [(3, .int (iI i)), (2, .ref (b 9)), (1, .ref (b 8)), (0, .ref bs)] 247 [] := by
  obtain ⟨j1, j2, j3, j4, j5, j5', j6, j7, j8, j10⟩ := hJ
  refine V_aload_n (pc := 247) C dL_law_247 rfl 2 rfl ?_
  refine cv_L_20 (pc := 248) (rest := []) (wn := fun _ => lawW d b a sl rw (up g 4 (up (g 4) 1 0)) G) (sn := fun _ => [.int (iI ((g 4) 1))]) C dL_law_248 (c_X8_wipe l D d (b 8) (a 8) (g 8) (a 4) (g 4) ) [0, 1] rfl rfl 0 rfl rfl rfl (Nat.le_of_ble_eq_true rfl) ⟨Nat.le_of_ble_eq_true rfl, Nat.le_of_ble_eq_true rfl⟩ ⟨Nat.le_of_ble_eq_true rfl, Nat.le_of_ble_eq_true rfl⟩ (fun _ => rfl) (fun _ => by simp only [lawW, wput, List.zip_cons_cons, List.zip_nil_right, List.foldl_cons, List.foldl_nil, List.set_cons_succ, List.set_cons_zero, up, reduceIte, Nat.reduceEqDiff, Nat.reduceSub]) (fun _ => rfl) ?_
  intro _ _
  refine V_aload_n (pc := 251) C dL_law_251 rfl 1 rfl ?_
  refine cv_L_24 (pc := 252) (rest := [.int (iI ((g 4) 1))]) (wn := fun _ => lawW d b a sl rw (up (up g 4 (up (g 4) 1 0)) 9 (up (up (g 9) 0 0) 2 0)) G) (sn := fun _ => [.int (iI ((g 9) 2)), .int (iI ((g 4) 1))]) C dL_law_252 (c_X9_wipe l D d (b 9) (a 9) (g 9) ) [63] rfl rfl 63 rfl rfl rfl (Nat.le_of_ble_eq_true rfl) ⟨Nat.le_of_ble_eq_true rfl, Nat.le_of_ble_eq_true rfl⟩ ⟨Nat.le_of_ble_eq_true rfl, Nat.le_of_ble_eq_true rfl⟩ (fun _ => rfl) (fun _ => by simp only [lawW, wput, List.zip_cons_cons, List.zip_nil_right, List.foldl_cons, List.foldl_nil, List.set_cons_succ, List.set_cons_zero, up, reduceIte, Nat.reduceEqDiff, Nat.reduceSub]) (fun _ => rfl) ?_
  intro _ _
  exact V_icmp_same (pc := 255) 1337 C dL_law_255 (by decide) (j1.1) (kk a (up (up g 4 (up (g 4) 1 0)) 9 (up (up (g 9) 0 0) 2 0)) G ⟨⟨rfl, j1.2.1, show (0 : Int) ≤ 0 ∧ (0 : Int) ≤ 72 by decide, j1.2.2.2⟩, j2, j3, j4, j5, j5', j6, j7, j8, j10⟩)
set_option maxRecDepth 100000 in
set_option maxHeartbeats 4000000 in
theorem law_fault {p : Program} {l : Launch} {e : Env} {s : State} {m : MethodId} {args : Array Value} {below : List Frame} {meth : Method} {c : Code} {A : Nat → Prop} {D : va_G} {d : Nat → ClassId} {Q : State → Prop} {bs L : Nat} {xs : Nat → Int32} {b : Nat → Nat} {a : Nat → Nat → Nat} {sl rw : Nat → Option Nat} {g : Nat → Nat → Int} {G : Nat → Nat → Int → Int} {i : Int} (C : CX p s m args c D d cL_law 4 RL) (X : SX s A bs L xs) (hi : 0 ≤ i ∧ i + 5 < L) (hJ : JJ b a sl rw g G)
    (kk : ∀ (a' : Nat → Nat → Nat) (g' : Nat → Nat → Int) (G' : Nat → Nat → Int → Int), JJ b a' sl rw g' G' → V p l e room_1 s m args below meth c A D Q 4 98 19494 (lawW d b a' sl rw g' G') [(3, .int (iI i)), (2, .ref (b 9)), (1, .ref (b 8)), (0, .ref bs)] 1337 []) : V p l e room_1 s m args below meth c A D Q 4 98 19494 (lawW d b a sl rw g G) [(3, .int (iI i)), (2, .ref (b 9)), (1, .ref (b 8)), (0, .ref bs)] 260 [] := by
  obtain ⟨j1, j2, j3, j4, j5, j5', j6, j7, j8, j10⟩ := hJ
  refine V_aload_n (pc := 260) C dL_law_260 rfl 2 rfl ?_
  refine cv_L_25 (pc := 261) (rest := []) (wn := fun u9 => lawW d b a sl rw (up (up g 3 u9.2.1) 10 u9.2.2.1) (up G 10 (up (up (up (up (up (up (G 10) 0 u9.2.2.2.1) 1 u9.2.2.2.2.1) 2 (cpI (fun _ => 0) (G 10 2) 6)) 3 u9.2.2.2.2.2.1) 4 u9.2.2.2.2.2.2.1) 5 u9.2.2.2.2.2.2.2))) (sn := fun u9 => [.int (iI (u9.1))]) C dL_law_261 (c_X8_fault l D d (b 8) (a 8) (g 8) (a 3) (g 3) (a 10) (g 10) (a 4) (g 4) (G 10 0) (G 10 1) (G 10 2) (G 10 3) (G 10 4) (G 10 5) (G 4 0) j2.1.1 j1.2.2.2 j1.2.2.1) [0, 3, 11, 12, 13, 14, 15, 16, 17, 1, 2] rfl rfl 0 rfl rfl rfl (Nat.le_of_ble_eq_true rfl) ⟨Nat.le_of_ble_eq_true rfl, Nat.le_of_ble_eq_true rfl⟩ ⟨Nat.le_of_ble_eq_true rfl, Nat.le_of_ble_eq_true rfl⟩ (fun u9 => rfl) (fun u9 => by simp only [lawW, wput, List.zip_cons_cons, List.zip_nil_right, List.foldl_cons, List.foldl_nil, List.set_cons_succ, List.set_cons_zero, up, reduceIte, Nat.reduceEqDiff, Nat.reduceSub]) (fun u9 => rfl) ?_
  rintro u hu
  refine V_aload_n (pc := 264) C dL_law_264 rfl 1 rfl ?_
  refine cv_L_28 (pc := 265) (rest := [.int (iI (u.1))]) (wn := fun u9 => lawW d b a sl rw (up (up (up g 3 u.2.1) 10 u.2.2.1) 9 (up (up (up (up (g 9) 0 0) 3 u9.2.1) 14 u9.2.2.1) 15 u9.2.2.2.1)) (up (up G 10 (up (up (up (up (up (up (G 10) 0 u.2.2.2.1) 1 u.2.2.2.2.1) 2 (cpI (fun _ => 0) (G 10 2) 6)) 3 u.2.2.2.2.2.1) 4 u.2.2.2.2.2.2.1) 5 u.2.2.2.2.2.2.2)) 9 (up (up (up (up (up (G 9) 16 u9.2.2.2.2.1) 17 u9.2.2.2.2.2.1) 18 u9.2.2.2.2.2.2.1) 19 u9.2.2.2.2.2.2.2.1) 20 u9.2.2.2.2.2.2.2.2))) (sn := fun u9 => [.int (iI (u9.1)), .int (iI (u.1))]) C dL_law_265 (c_X9_fault l D d (b 9) (a 9) (g 9) (G 9 1) (G 9 16) (G 9 17) (G 9 18) (G 9 19) (G 9 20) (rd0 (g 3) (g 10) (G 10 0) (G 10 1) (G 10 3) (G 10 4) (G 10 5)) (by rw [← j1.2.1]; exact j1.2.2.2) (by rw [← j1.1]; exact j1.2.2.1) j2.1.2.2 (rd0_K j2.1.1) (rd0_R2 j2.1.2.2.2.2.2.2)) [63, 64, 72, 73, 74, 75, 76] rfl rfl 63 rfl rfl rfl (Nat.le_of_ble_eq_true rfl) ⟨Nat.le_of_ble_eq_true rfl, Nat.le_of_ble_eq_true rfl⟩ ⟨Nat.le_of_ble_eq_true rfl, Nat.le_of_ble_eq_true rfl⟩ (fun u9 => rfl) (fun u9 => by simp only [lawW, wput, List.zip_cons_cons, List.zip_nil_right, List.foldl_cons, List.foldl_nil, List.set_cons_succ, List.set_cons_zero, up, reduceIte, Nat.reduceEqDiff, Nat.reduceSub]) (fun u9 => rfl) ?_
  rintro v hv
  rw [← j1.1, ← j1.2.1] at hv
  exact V_icmp_same (pc := 268) 1337 C dL_law_268 (by decide) ((mr_tie hu hv.1).1) (kk a (up (up (up g 3 u.2.1) 10 u.2.2.1) 9 (up (up (up (up (g 9) 0 0) 3 v.2.1) 14 v.2.2.1) 15 v.2.2.2.1)) (up (up G 10 (up (up (up (up (up (up (G 10) 0 u.2.2.2.1) 1 u.2.2.2.2.1) 2 (cpI (fun _ => 0) (G 10 2) 6)) 3 u.2.2.2.2.2.1) 4 u.2.2.2.2.2.2.1) 5 u.2.2.2.2.2.2.2)) 9 (up (up (up (up (up (G 9) 16 v.2.2.2.2.1) 17 v.2.2.2.2.2.1) 18 v.2.2.2.2.2.2.1) 19 v.2.2.2.2.2.2.2.1) 20 v.2.2.2.2.2.2.2.2)) ⟨j1, ⟨⟨rd_B hu.1, j2.1.2.1, md_B hv.2⟩, bd_c (bd_0 (by decide) (by decide)) j2.2⟩, j3, j4, j5, j5', j6, j7, j8, j10⟩)
set_option maxRecDepth 100000 in
set_option maxHeartbeats 4000000 in
theorem law_market_b {p : Program} {l : Launch} {e : Env} {s : State} {m : MethodId} {args : Array Value} {below : List Frame} {meth : Method} {c : Code} {A : Nat → Prop} {D : va_G} {d : Nat → ClassId} {Q : State → Prop} {bs L : Nat} {xs : Nat → Int32} {b : Nat → Nat} {a : Nat → Nat → Nat} {sl rw : Nat → Option Nat} {g : Nat → Nat → Int} {G : Nat → Nat → Int → Int} {i : Int} (C : CX p s m args c D d cL_law 4 RL) (X : SX s A bs L xs) (hi : 0 ≤ i ∧ i + 5 < L) {s0 : ((Nat → Int) × (Nat → Int) × (Int → Int) × (Int → Int) × (Int → Int) × (Int → Int) × (Int → Int))} {r : Int} (h1 : bd (G 9 1) 0 255) (h2 : 0 ≤ g 9 2 ∧ g 9 2 ≤ 72) (h3 : mdKB (0, 0, 0, (G 9 16), (G 9 17), (G 9 18), (G 9 19), (G 9 20))) (h4 : rdK s0) (h5 : rmR s0 (0, 0, 0, (G 9 16), (G 9 17), (G 9 18), (G 9 19), cpI (fun _ => 0) (G 9 20) 24)) (h6 : ∀ x y, mrE (g 9 2) (G 9 1) s0 x y → x = -9) (hfin : ∀ v : (Int × Int × Int × (Int → Int) × (Int → Int) × (Int → Int) × (Int → Int) × (Int → Int)), mrE (g 9 2) (G 9 1) s0 (-9) v ∧ mdKB v → r = v.2.1 ∧ JJ b a sl rw (up g 9 (up (up (up (up (up (up (up (g 9) 0 0) 3 v.1) 14 v.2.1) 15 v.2.2.1) 4 v.2.1) 5 v.2.2.1) 21 0)) (up G 9 (up (up (up (up (up (up (up (up (up (up (up (up (up (up (G 9) 1 (G 9 1)) 16 v.2.2.2.1) 17 v.2.2.2.2.1) 18 v.2.2.2.2.2.1) 19 v.2.2.2.2.2.2.1) 20 v.2.2.2.2.2.2.2) 6 (cpI v.2.2.2.1 (G 9 6) 6)) 7 (cpI v.2.2.2.2.1 (G 9 7) 6)) 8 (cpI v.2.2.2.2.2.1 (G 9 8) 4)) 9 (cpI v.2.2.2.2.2.2.1 (G 9 9) 4)) 10 (cpI v.2.2.2.2.2.2.2 (G 9 10) 24)) 11 (cpI (fun _ => 0) (G 9 11) 6)) 12 (cpI (fun _ => 0) (G 9 12) 6)) 39 (uI (uI (G 9 39) 0 0) 1 0))))
    (kk : ∀ (a' : Nat → Nat → Nat) (g' : Nat → Nat → Int) (G' : Nat → Nat → Int → Int), JJ b a' sl rw g' G' → V p l e room_1 s m args below meth c A D Q 4 98 19494 (lawW d b a' sl rw g' G') [(3, .int (iI i)), (2, .ref (b 9)), (1, .ref (b 8)), (0, .ref bs)] 1337 []) : V p l e room_1 s m args below meth c A D Q 4 98 19494 (lawW d b a sl rw g G) [(3, .int (iI i)), (2, .ref (b 9)), (1, .ref (b 8)), (0, .ref bs)] 277 [.int (iI r)] := by
  refine V_aload_n (pc := 277) C dL_law_277 rfl 1 rfl ?_
  refine cv_L_32 (pc := 278) (rest := [.int (iI r)]) (wn := fun u9 => lawW d b a sl rw (up g 9 (up (up (up (up (up (up (up (g 9) 0 0) 3 u9.1) 14 u9.2.1) 15 u9.2.2.1) 4 u9.2.1) 5 u9.2.2.1) 21 0)) (up G 9 (up (up (up (up (up (up (up (up (up (up (up (up (up (up (G 9) 1 (G 9 1)) 16 u9.2.2.2.1) 17 u9.2.2.2.2.1) 18 u9.2.2.2.2.2.1) 19 u9.2.2.2.2.2.2.1) 20 u9.2.2.2.2.2.2.2) 6 (cpI u9.2.2.2.1 (G 9 6) 6)) 7 (cpI u9.2.2.2.2.1 (G 9 7) 6)) 8 (cpI u9.2.2.2.2.2.1 (G 9 8) 4)) 9 (cpI u9.2.2.2.2.2.2.1 (G 9 9) 4)) 10 (cpI u9.2.2.2.2.2.2.2 (G 9 10) 24)) 11 (cpI (fun _ => 0) (G 9 11) 6)) 12 (cpI (fun _ => 0) (G 9 12) 6)) 39 (uI (uI (G 9 39) 0 0) 1 0)))) (sn := fun u9 => [.int (iI u9.2.1), .int (iI r)]) C dL_law_278 (c_X9_market_ok l D d (b 9) (a 9) (g 9) (G 9 1) (G 9 16) (G 9 17) (G 9 18) (G 9 19) (G 9 20) (G 9 6) (G 9 7) (G 9 8) (G 9 9) (G 9 10) (G 9 11) (G 9 12) (G 9 39) s0 h1 h2 h3 h4 h5 h6) [63, 64, 72, 73, 74, 75, 76, 65, 66, 67, 68, 69, 70, 71, 92] rfl rfl 63 rfl rfl rfl (Nat.le_of_ble_eq_true rfl) ⟨Nat.le_of_ble_eq_true rfl, Nat.le_of_ble_eq_true rfl⟩ ⟨Nat.le_of_ble_eq_true rfl, Nat.le_of_ble_eq_true rfl⟩ (fun _ => rfl) (fun u9 => by simp only [lawW, wput, List.zip_cons_cons, List.zip_nil_right, List.foldl_cons, List.foldl_nil, List.set_cons_succ, List.set_cons_zero, up, reduceIte, Nat.reduceEqDiff, Nat.reduceSub]) (fun _ => rfl) ?_
  rintro v hv
  have key := hfin v hv
  exact V_icmp_same (pc := 281) 1337 C dL_law_281 (by decide) key.1 (kk a (up g 9 (up (up (up (up (up (up (up (g 9) 0 0) 3 v.1) 14 v.2.1) 15 v.2.2.1) 4 v.2.1) 5 v.2.2.1) 21 0)) (up G 9 (up (up (up (up (up (up (up (up (up (up (up (up (up (up (G 9) 1 (G 9 1)) 16 v.2.2.2.1) 17 v.2.2.2.2.1) 18 v.2.2.2.2.2.1) 19 v.2.2.2.2.2.2.1) 20 v.2.2.2.2.2.2.2) 6 (cpI v.2.2.2.1 (G 9 6) 6)) 7 (cpI v.2.2.2.2.1 (G 9 7) 6)) 8 (cpI v.2.2.2.2.2.1 (G 9 8) 4)) 9 (cpI v.2.2.2.2.2.2.1 (G 9 9) 4)) 10 (cpI v.2.2.2.2.2.2.2 (G 9 10) 24)) 11 (cpI (fun _ => 0) (G 9 11) 6)) 12 (cpI (fun _ => 0) (G 9 12) 6)) 39 (uI (uI (G 9 39) 0 0) 1 0))) key.2)
set_option maxRecDepth 100000 in
set_option maxHeartbeats 4000000 in
theorem law_market {p : Program} {l : Launch} {e : Env} {s : State} {m : MethodId} {args : Array Value} {below : List Frame} {meth : Method} {c : Code} {A : Nat → Prop} {D : va_G} {d : Nat → ClassId} {Q : State → Prop} {bs L : Nat} {xs : Nat → Int32} {b : Nat → Nat} {a : Nat → Nat → Nat} {sl rw : Nat → Option Nat} {g : Nat → Nat → Int} {G : Nat → Nat → Int → Int} {i : Int} (C : CX p s m args c D d cL_law 4 RL) (X : SX s A bs L xs) (hi : 0 ≤ i ∧ i + 5 < L) (hJ : JJ b a sl rw g G)
    (kk : ∀ (a' : Nat → Nat → Nat) (g' : Nat → Nat → Int) (G' : Nat → Nat → Int → Int), JJ b a' sl rw g' G' → V p l e room_1 s m args below meth c A D Q 4 98 19494 (lawW d b a' sl rw g' G') [(3, .int (iI i)), (2, .ref (b 9)), (1, .ref (b 8)), (0, .ref bs)] 1337 []) : V p l e room_1 s m args below meth c A D Q 4 98 19494 (lawW d b a sl rw g G) [(3, .int (iI i)), (2, .ref (b 9)), (1, .ref (b 8)), (0, .ref bs)] 273 [] := by
  obtain ⟨j1, j2, j3, j4, j5, j5', j6, j7, j8, j10⟩ := hJ
  have b91 : bd (G 9 1) 0 255 := by rw [← j1.2.1]; exact j1.2.2.2
  have b92 : 0 ≤ g 9 2 ∧ g 9 2 ≤ 72 := by rw [← j1.1]; exact j1.2.2.1
  by_cases hy : ∃ y, rdE (g 4 1) (G 4 0) (rd0 (g 3) (g 10) (G 10 0) (G 10 1) (G 10 3) (G 10 4) (G 10 5)) (-9) y
  · obtain ⟨y0, hy0⟩ := hy
    refine V_aload_n (pc := 273) C dL_law_273 rfl 2 rfl ?_
    refine cv_L_29 (pc := 274) (rest := []) (wn := fun u9 => lawV d b a sl rw (up (up (a 8) 2 (a 8 3)) 3 (a 8 2)) (up (up (up (up (up g 3 u9.1) 10 u9.2.1) 5 (up (g 5) 6 0)) 11 (up (g 11) 8 0)) 12 (up (g 12) 8 0)) (up (up G 10 (up (up (up (up (up (up (G 10) 0 u9.2.2.1) 1 u9.2.2.2.1) 2 (cpI (fun _ => 0) (G 10 2) 6)) 3 u9.2.2.2.2.1) 4 u9.2.2.2.2.2.1) 5 u9.2.2.2.2.2.2)) 5 (up (up (G 5) 0 (cpI u9.2.2.1 (G 5 0) 6)) 1 (cpI u9.2.2.2.2.2.2 (G 5 1) 4)))) (sn := fun u9 => [.int (iI (u9.2.1 6))]) C dL_law_274 (c_X8_market_ok l D d (b 8) (a 8) (g 8) (a 3) (g 3) (a 10) (g 10) (a 4) (g 4) (G 10 0) (G 10 1) (G 10 2) (G 10 3) (G 10 4) (G 10 5) (G 4 0) (a 5) (g 5) (G 5 0) (G 5 1) (b 11) (b 12) (a 11) (a 12) (g 11) (g 12) sl j2.1.1 j1.2.2.2 j1.2.2.1 (fun x y h => rdE_det hy0 h) j10.1 j10.2.1) [0, 3, 11, 12, 13, 14, 15, 16, 17, 1, 2, 18, 19, 20, 25, 26, 33] rfl rfl 0 rfl rfl rfl (Nat.le_of_ble_eq_true rfl) ⟨Nat.le_of_ble_eq_true rfl, Nat.le_of_ble_eq_true rfl⟩ ⟨Nat.le_of_ble_eq_true rfl, Nat.le_of_ble_eq_true rfl⟩ (fun u9 => rfl) (fun u9 => by simp only [lawV, lawW, wput, List.zip_cons_cons, List.zip_nil_right, List.foldl_cons, List.foldl_nil, List.set_cons_succ, List.set_cons_zero, up, reduceIte, Nat.reduceEqDiff, Nat.reduceSub]) (fun u9 => rfl) ?_
    rintro u hu
    refine V_subw (ws' := lawW d b (up (up (up a 8 (up (up (a 8) 2 (a 8 3)) 3 (a 8 2))) 6 (a 10)) 10 (a 6)) sl rw (up (up (up (up (up (up g 3 u.1) 6 u.2.1) 10 (g 6)) 5 (up (g 5) 6 0)) 11 (up (g 11) 8 0)) 12 (up (g 12) 8 0)) (up (up (up G 6 (up (up (up (up (up (up (G 10) 0 u.2.2.1) 1 u.2.2.2.1) 2 (cpI (fun _ => 0) (G 10 2) 6)) 3 u.2.2.2.2.1) 4 u.2.2.2.2.2.1) 5 u.2.2.2.2.2.2)) 10 (G 6)) 5 (up (up (G 5) 0 (cpI u.2.2.1 (G 5 0) 6)) 1 (cpI u.2.2.2.2.2.2 (G 5 1) 4)))) [0, 1, 2, 3, 11, 12, 13, 14, 15, 16, 17, 4, 5, 6, 7, 8, 9, 10, 18, 19, 20, 21, 22, 23, 24, 25, 26, 27, 28, 29, 30, 31, 32, 33, 34, 35, 36, 37, 38, 39, 40, 41, 42, 43, 44, 45, 46, 47, 48, 49, 50, 51, 52, 53, 54, 55, 56, 57, 58, 59, 60, 61, 62, 63, 64, 65, 66, 67, 68, 69, 70, 71, 72, 73, 74, 75, 76, 77, 78, 79, 80, 81, 82, 83, 84, 85, 86, 87, 88, 89, 90, 91, 92, 93, 94, 95, 96, 97] rfl rfl ?_
    have kb : rdKB u := hu.1
    refine law_market_b (a := (up (up (up a 8 (up (up (a 8) 2 (a 8 3)) 3 (a 8 2))) 6 (a 10)) 10 (a 6))) (g := (up (up (up (up (up (up g 3 u.1) 6 u.2.1) 10 (g 6)) 5 (up (g 5) 6 0)) 11 (up (g 11) 8 0)) 12 (up (g 12) 8 0))) (G := (up (up (up G 6 (up (up (up (up (up (up (G 10) 0 u.2.2.1) 1 u.2.2.2.1) 2 (cpI (fun _ => 0) (G 10 2) 6)) 3 u.2.2.2.2.1) 4 u.2.2.2.2.2.1) 5 u.2.2.2.2.2.2)) 10 (G 6)) 5 (up (up (G 5) 0 (cpI u.2.2.1 (G 5 0) 6)) 1 (cpI u.2.2.2.2.2.2 (G 5 1) 4)))) (s0 := (rd0 (g 3) (g 10) (G 10 0) (G 10 1) (G 10 3) (G 10 4) (G 10 5))) C X hi b91 b92 j2.1.2.2 (rd0_K j2.1.1) (rd0_R2 j2.1.2.2.2.2.2.2) (fun x y h => ?_) (fun v hv => ?_) kk
    · have h : mrE (g 9 2) (G 9 1) (rd0 (g 3) (g 10) (G 10 0) (G 10 1) (G 10 3) (G 10 4) (G 10 5)) x y := h
      rw [← j1.1, ← j1.2.1] at h
      exact (mr_tie hy0 h).1.symm
    · have hv : mrE (g 9 2) (G 9 1) (rd0 (g 3) (g 10) (G 10 0) (G 10 1) (G 10 3) (G 10 4) (G 10 5)) (-9) v ∧ mdKB v := hv
      rw [← j1.1, ← j1.2.1] at hv
      exact ⟨mk_ans hu hv, j1, ⟨⟨j2.1.2.1, rd_B kb, md_B hv.2⟩, j3.2.2.2.2.1.1⟩, mk_3 (show (0 : Int) = 0 from rfl) hu hv j2.2 j3.2.1.2.1 j3.2.2.1.2.1 j3.2.2.2.1.2.1 j3.2.2.2.2.1.2.1 j3.2.2.2.2.2.2.1, mk_4 hu hv j4, mk_5 rfl j5, mk_5 rfl j5', j6, j7, ⟨j8.1, j8.2.1, j8.2.2.1, j8.2.2.2.1, bd_u (bd_u j8.2.2.2.2 (by decide)) (by decide)⟩, j10⟩
  · have hno : ∀ x y, rdE (g 4 1) (G 4 0) (rd0 (g 3) (g 10) (G 10 0) (G 10 1) (G 10 3) (G 10 4) (G 10 5)) x y → ¬ x = -9 := fun x y h z => hy ⟨y, by rw [z] at h; exact h⟩
    refine V_aload_n (pc := 273) C dL_law_273 rfl 2 rfl ?_
    refine cv_L_29 (pc := 274) (rest := []) (wn := fun u9 => lawW d b a sl rw (up (up g 3 u9.1) 10 u9.2.1) (up G 10 (up (up (up (up (up (up (G 10) 0 u9.2.2.1) 1 u9.2.2.2.1) 2 (cpI (fun _ => 0) (G 10 2) 6)) 3 u9.2.2.2.2.1) 4 u9.2.2.2.2.2.1) 5 u9.2.2.2.2.2.2))) (sn := fun u9 => [.int (iI (-3))]) C dL_law_274 (c_X8_market_no l D d (b 8) (a 8) (g 8) (a 3) (g 3) (a 10) (g 10) (a 4) (g 4) (G 10 0) (G 10 1) (G 10 2) (G 10 3) (G 10 4) (G 10 5) (G 4 0) j2.1.1 j1.2.2.2 j1.2.2.1 hno) [0, 3, 11, 12, 13, 14, 15, 16, 17, 1, 2] rfl rfl 0 rfl rfl rfl (Nat.le_of_ble_eq_true rfl) ⟨Nat.le_of_ble_eq_true rfl, Nat.le_of_ble_eq_true rfl⟩ ⟨Nat.le_of_ble_eq_true rfl, Nat.le_of_ble_eq_true rfl⟩ (fun u9 => rfl) (fun u9 => by simp only [lawW, wput, List.zip_cons_cons, List.zip_nil_right, List.foldl_cons, List.foldl_nil, List.set_cons_succ, List.set_cons_zero, up, reduceIte, Nat.reduceEqDiff, Nat.reduceSub]) (fun u9 => rfl) ?_
    rintro u hu
    refine V_aload_n (pc := 277) C dL_law_277 rfl 1 rfl ?_
    refine cv_L_32 (pc := 278) (rest := [.int (iI (-3))]) (wn := fun u9 => lawW d b a sl rw (up (up (up g 3 u.1) 10 u.2.1) 9 (up (up (up (up (g 9) 0 0) 3 u9.1) 14 u9.2.1) 15 u9.2.2.1)) (up (up G 10 (up (up (up (up (up (up (G 10) 0 u.2.2.1) 1 u.2.2.2.1) 2 (cpI (fun _ => 0) (G 10 2) 6)) 3 u.2.2.2.2.1) 4 u.2.2.2.2.2.1) 5 u.2.2.2.2.2.2)) 9 (up (up (up (up (up (G 9) 16 u9.2.2.2.1) 17 u9.2.2.2.2.1) 18 u9.2.2.2.2.2.1) 19 u9.2.2.2.2.2.2.1) 20 u9.2.2.2.2.2.2.2))) (sn := fun u9 => [.int (iI (-3)), .int (iI (-3))]) C dL_law_278 (c_X9_market_no l D d (b 9) (a 9) (g 9) (G 9 1) (G 9 16) (G 9 17) (G 9 18) (G 9 19) (G 9 20) (rd0 (g 3) (g 10) (G 10 0) (G 10 1) (G 10 3) (G 10 4) (G 10 5)) (by rw [← j1.2.1]; exact j1.2.2.2) (by rw [← j1.1]; exact j1.2.2.1) j2.1.2.2 (rd0_K j2.1.1) (rd0_R2 j2.1.2.2.2.2.2.2) (fun x y h z => by rw [← j1.1, ← j1.2.1, z] at h; exact hy (mrE_rd (rd0_K j2.1.1) h))) [63, 64, 72, 73, 74, 75, 76] rfl rfl 63 rfl rfl rfl (Nat.le_of_ble_eq_true rfl) ⟨Nat.le_of_ble_eq_true rfl, Nat.le_of_ble_eq_true rfl⟩ ⟨Nat.le_of_ble_eq_true rfl, Nat.le_of_ble_eq_true rfl⟩ (fun u9 => rfl) (fun u9 => by simp only [lawW, wput, List.zip_cons_cons, List.zip_nil_right, List.foldl_cons, List.foldl_nil, List.set_cons_succ, List.set_cons_zero, up, reduceIte, Nat.reduceEqDiff, Nat.reduceSub]) (fun u9 => rfl) ?_
    rintro v hv
    exact V_icmp_same (pc := 281) 1337 C dL_law_281 (by decide) (rfl) (kk a (up (up (up g 3 u.1) 10 u.2.1) 9 (up (up (up (up (g 9) 0 0) 3 v.1) 14 v.2.1) 15 v.2.2.1)) (up (up G 10 (up (up (up (up (up (up (G 10) 0 u.2.2.1) 1 u.2.2.2.1) 2 (cpI (fun _ => 0) (G 10 2) 6)) 3 u.2.2.2.2.1) 4 u.2.2.2.2.2.1) 5 u.2.2.2.2.2.2)) 9 (up (up (up (up (up (G 9) 16 v.2.2.2.1) 17 v.2.2.2.2.1) 18 v.2.2.2.2.2.1) 19 v.2.2.2.2.2.2.1) 20 v.2.2.2.2.2.2.2)) ⟨j1, ⟨⟨rd_B hu, j2.1.2.1, md_B hv⟩, bd_c (bd_0 (by decide) (by decide)) j2.2⟩, j3, j4, j5, j5', j6, j7, j8, j10⟩)
set_option maxRecDepth 100000 in
set_option maxHeartbeats 4000000 in
theorem law_person {p : Program} {l : Launch} {e : Env} {s : State} {m : MethodId} {args : Array Value} {below : List Frame} {meth : Method} {c : Code} {A : Nat → Prop} {D : va_G} {d : Nat → ClassId} {Q : State → Prop} {bs L : Nat} {xs : Nat → Int32} {b : Nat → Nat} {a : Nat → Nat → Nat} {sl rw : Nat → Option Nat} {g : Nat → Nat → Int} {G : Nat → Nat → Int → Int} {i : Int} (C : CX p s m args c D d cL_law 4 RL) (X : SX s A bs L xs) (hi : 0 ≤ i ∧ i + 5 < L) (hJ : JJ b a sl rw g G)
    (kk : ∀ (a' : Nat → Nat → Nat) (g' : Nat → Nat → Int) (G' : Nat → Nat → Int → Int), JJ b a' sl rw g' G' → V p l e room_1 s m args below meth c A D Q 4 98 19494 (lawW d b a' sl rw g' G') [(3, .int (iI i)), (2, .ref (b 9)), (1, .ref (b 8)), (0, .ref bs)] 1337 []) : V p l e room_1 s m args below meth c A D Q 4 98 19494 (lawW d b a sl rw g G) [(3, .int (iI i)), (2, .ref (b 9)), (1, .ref (b 8)), (0, .ref bs)] 286 [] := by
  obtain ⟨j1, j2, j3, j4, j5, j5', j6, j7, j8, j10⟩ := hJ
  refine V_aload_n (pc := 286) C dL_law_286 rfl 2 rfl ?_
  refine V_aload_n (pc := 287) C dL_law_287 rfl 3 rfl ?_
  refine V_iload_n (pc := 288) C dL_law_288 rfl 0 rfl ?_
  refine V_iconst (pc := 289) C dL_law_289 ?_
  refine V_iadd (pc := 290) C dL_law_290 ?_
  refine V_sld (pc := 291) X C dL_law_291 (by omega) (by omega) ?_
  refine V_aload_n (pc := 292) C dL_law_292 rfl 3 rfl ?_
  refine V_iload_n (pc := 293) C dL_law_293 rfl 0 rfl ?_
  refine V_iconst (pc := 294) C dL_law_294 ?_
  refine V_iadd (pc := 295) C dL_law_295 ?_
  refine V_sld (pc := 296) X C dL_law_296 (by omega) (by omega) ?_
  refine cv_L_33 (pc := 297) (rest := []) (wn := fun _ => lawW d b a sl rw g G) (sn := fun _ => [.int (iI (pPerson ((g 6) 6) ((g 5) 6) (G 5 0) (G 6 1) (G 6 2) (fun j => bitI ((g 6) 9) j) (G 5 2) (G 5 3) (G 5 4) (G 5 5) (G 6 4) (xz xs (i + 1)) (xz xs (i + 2))))]) C dL_law_297 (c_X8_person l D d (b 8) (a 8) (g 8) (a 6) (g 6) (a 5) (g 5) (G 6 1) (G 6 2) (G 6 4) (G 5 0) (G 5 2) (G 5 3) (G 5 4) (G 5 5) (xz xs (i + 1)) (xz xs (i + 2)) j3.1.2.2.1 j3.2.2.2.2.2.1 j4.1.2.2.1 j3.2.1.1 j3.2.2.2.2.1.1 j3.2.2.1.1 j4.2.1.1 j4.2.2.2.2.1.1 j4.2.2.2.2.1.2.1 j4.2.2.2.2.1.2.2.1 j4.2.2.2.2.1.2.2.2 (xz_sm xs _) (xz_sm xs _)) [0, 4, 6, 7, 9, 18, 19, 21, 22, 23, 24] rfl rfl 0 rfl rfl rfl (Nat.le_of_ble_eq_true rfl) ⟨Nat.le_of_ble_eq_true rfl, Nat.le_of_ble_eq_true rfl⟩ ⟨Nat.le_of_ble_eq_true rfl, Nat.le_of_ble_eq_true rfl⟩ (fun _ => rfl) (fun _ => by simp only [lawW, wput, List.zip_cons_cons, List.zip_nil_right, List.foldl_cons, List.foldl_nil, List.set_cons_succ, List.set_cons_zero, up, reduceIte, Nat.reduceEqDiff, Nat.reduceSub]) (fun _ => rfl) ?_
  intro _ _
  refine V_aload_n (pc := 300) C dL_law_300 rfl 1 rfl ?_
  refine V_aload_n (pc := 301) C dL_law_301 rfl 3 rfl ?_
  refine V_iload_n (pc := 302) C dL_law_302 rfl 0 rfl ?_
  refine V_iconst (pc := 303) C dL_law_303 ?_
  refine V_iadd (pc := 304) C dL_law_304 ?_
  refine V_sld (pc := 305) X C dL_law_305 (by omega) (by omega) ?_
  refine V_aload_n (pc := 306) C dL_law_306 rfl 3 rfl ?_
  refine V_iload_n (pc := 307) C dL_law_307 rfl 0 rfl ?_
  refine V_iconst (pc := 308) C dL_law_308 ?_
  refine V_iadd (pc := 309) C dL_law_309 ?_
  refine V_sld (pc := 310) X C dL_law_310 (by omega) (by omega) ?_
  refine cv_L_37 (pc := 311) (rest := [.int (iI (pPerson ((g 6) 6) ((g 5) 6) (G 5 0) (G 6 1) (G 6 2) (fun j => bitI ((g 6) 9) j) (G 5 2) (G 5 3) (G 5 4) (G 5 5) (G 6 4) (xz xs (i + 1)) (xz xs (i + 2))))]) (wn := fun _ => lawW d b a sl rw (up g 9 (up (g 9) 0 0)) G) (sn := fun _ => [.int (iI (pPerson ((g 9) 4) ((g 9) 21) (G 9 6) (G 9 7) (G 9 11) (G 9 12) (G 9 22) (G 9 23) (G 9 24) (G 9 25) (G 9 8) (xz xs (i + 1)) (xz xs (i + 2)))), .int (iI (pPerson ((g 6) 6) ((g 5) 6) (G 5 0) (G 6 1) (G 6 2) (fun j => bitI ((g 6) 9) j) (G 5 2) (G 5 3) (G 5 4) (G 5 5) (G 6 4) (xz xs (i + 1)) (xz xs (i + 2))))]) C dL_law_311 (c_X9_person l D d (b 9) (a 9) (g 9) (G 9 6) (G 9 7) (G 9 8) (G 9 11) (G 9 12) (G 9 22) (G 9 23) (G 9 24) (G 9 25) (xz xs (i + 1)) (xz xs (i + 2)) (by rw [← j3.1.1]; exact j3.1.2.2.1) (by rw [← j4.1.1]; exact j4.1.2.2.1) j4.2.1.2.1 j3.2.1.2.1 j3.2.2.1.2.1 j3.2.2.2.2.1.2.1 j3.2.2.2.2.2.2.1 (by rw [← j4.2.2.2.1.1]; exact j4.2.2.2.2.1.1) (by rw [← j4.2.2.2.1.2.1]; exact j4.2.2.2.2.1.2.1) (by rw [← j4.2.2.2.1.2.2.1]; exact j4.2.2.2.2.1.2.2.1) (by rw [← j4.2.2.2.1.2.2.2]; exact j4.2.2.2.2.1.2.2.2) (xz_sm xs _) (xz_sm xs _)) [63, 65, 66, 67, 70, 71, 77, 78, 79, 80] rfl rfl 63 rfl rfl rfl (Nat.le_of_ble_eq_true rfl) ⟨Nat.le_of_ble_eq_true rfl, Nat.le_of_ble_eq_true rfl⟩ ⟨Nat.le_of_ble_eq_true rfl, Nat.le_of_ble_eq_true rfl⟩ (fun _ => rfl) (fun _ => by simp only [lawW, wput, List.zip_cons_cons, List.zip_nil_right, List.foldl_cons, List.foldl_nil, List.set_cons_succ, List.set_cons_zero, up, reduceIte, Nat.reduceEqDiff, Nat.reduceSub]) (fun _ => rfl) ?_
  intro _ _
  exact V_icmp_same (pc := 314) 1337 C dL_law_314 (by decide) (e_person j3 j4) (kk a (up g 9 (up (g 9) 0 0)) G ⟨j1, j2, j3, j4, j5, j5', j6, j7, j8, j10⟩)
set_option maxRecDepth 100000 in
set_option maxHeartbeats 4000000 in
theorem law_counter {p : Program} {l : Launch} {e : Env} {s : State} {m : MethodId} {args : Array Value} {below : List Frame} {meth : Method} {c : Code} {A : Nat → Prop} {D : va_G} {d : Nat → ClassId} {Q : State → Prop} {bs L : Nat} {xs : Nat → Int32} {b : Nat → Nat} {a : Nat → Nat → Nat} {sl rw : Nat → Option Nat} {g : Nat → Nat → Int} {G : Nat → Nat → Int → Int} {i : Int} (C : CX p s m args c D d cL_law 4 RL) (X : SX s A bs L xs) (hi : 0 ≤ i ∧ i + 5 < L) (hJ : JJ b a sl rw g G)
    (kk : ∀ (a' : Nat → Nat → Nat) (g' : Nat → Nat → Int) (G' : Nat → Nat → Int → Int), JJ b a' sl rw g' G' → V p l e room_1 s m args below meth c A D Q 4 98 19494 (lawW d b a' sl rw g' G') [(3, .int (iI i)), (2, .ref (b 9)), (1, .ref (b 8)), (0, .ref bs)] 1337 []) : V p l e room_1 s m args below meth c A D Q 4 98 19494 (lawW d b a sl rw g G) [(3, .int (iI i)), (2, .ref (b 9)), (1, .ref (b 8)), (0, .ref bs)] 319 [] := by
  obtain ⟨j1, j2, j3, j4, j5, j5', j6, j7, j8, j10⟩ := hJ
  refine V_aload_n (pc := 319) C dL_law_319 rfl 2 rfl ?_
  refine V_aload_n (pc := 320) C dL_law_320 rfl 3 rfl ?_
  refine V_iload_n (pc := 321) C dL_law_321 rfl 0 rfl ?_
  refine V_iconst (pc := 322) C dL_law_322 ?_
  refine V_iadd (pc := 323) C dL_law_323 ?_
  refine V_sld (pc := 324) X C dL_law_324 (by omega) (by omega) ?_
  refine V_aload_n (pc := 325) C dL_law_325 rfl 3 rfl ?_
  refine V_iload_n (pc := 326) C dL_law_326 rfl 0 rfl ?_
  refine V_iconst (pc := 327) C dL_law_327 ?_
  refine V_iadd (pc := 328) C dL_law_328 ?_
  refine V_sld (pc := 329) X C dL_law_329 (by omega) (by omega) ?_
  refine cv_L_38 (pc := 330) (rest := []) (wn := fun _ => lawW d b a sl rw g G) (sn := fun _ => [.int (iI (pCounter ((g 6) 7) ((g 5) 6) ((g 5) 7) (G 6 4) (G 5 1) (G 5 3) (G 5 4) (G 5 5) (xz xs (i + 1)) (xz xs (i + 2))))]) C dL_law_330 (c_X8_counter l D d (b 8) (a 8) (g 8) (a 6) (g 6) (a 5) (g 5) (G 6 4) (G 5 1) (G 5 3) (G 5 4) (G 5 5) (xz xs (i + 1)) (xz xs (i + 2)) j3.1.2.2.2 j4.1.2.2.1 j3.2.2.1.1 j4.2.2.1.1 j4.2.2.2.2.1.2.1 j4.2.2.2.2.1.2.2.1 j4.2.2.2.2.1.2.2.2 (xz_sm xs _) (xz_sm xs _)) [0, 4, 9, 18, 20, 22, 23, 24] rfl rfl 0 rfl rfl rfl (Nat.le_of_ble_eq_true rfl) ⟨Nat.le_of_ble_eq_true rfl, Nat.le_of_ble_eq_true rfl⟩ ⟨Nat.le_of_ble_eq_true rfl, Nat.le_of_ble_eq_true rfl⟩ (fun _ => rfl) (fun _ => by simp only [lawW, wput, List.zip_cons_cons, List.zip_nil_right, List.foldl_cons, List.foldl_nil, List.set_cons_succ, List.set_cons_zero, up, reduceIte, Nat.reduceEqDiff, Nat.reduceSub]) (fun _ => rfl) ?_
  intro _ _
  refine V_aload_n (pc := 333) C dL_law_333 rfl 1 rfl ?_
  refine V_aload_n (pc := 334) C dL_law_334 rfl 3 rfl ?_
  refine V_iload_n (pc := 335) C dL_law_335 rfl 0 rfl ?_
  refine V_iconst (pc := 336) C dL_law_336 ?_
  refine V_iadd (pc := 337) C dL_law_337 ?_
  refine V_sld (pc := 338) X C dL_law_338 (by omega) (by omega) ?_
  refine V_aload_n (pc := 339) C dL_law_339 rfl 3 rfl ?_
  refine V_iload_n (pc := 340) C dL_law_340 rfl 0 rfl ?_
  refine V_iconst (pc := 341) C dL_law_341 ?_
  refine V_iadd (pc := 342) C dL_law_342 ?_
  refine V_sld (pc := 343) X C dL_law_343 (by omega) (by omega) ?_
  refine cv_L_41 (pc := 344) (rest := [.int (iI (pCounter ((g 6) 7) ((g 5) 6) ((g 5) 7) (G 6 4) (G 5 1) (G 5 3) (G 5 4) (G 5 5) (xz xs (i + 1)) (xz xs (i + 2))))]) (wn := fun _ => lawW d b a sl rw (up g 9 (up (g 9) 0 0)) G) (sn := fun _ => [.int (iI (pCounter ((g 9) 5) ((g 9) 21) ((g 9) 13) (G 9 8) (G 9 9) (G 9 23) (G 9 24) (G 9 25) (xz xs (i + 1)) (xz xs (i + 2)))), .int (iI (pCounter ((g 6) 7) ((g 5) 6) ((g 5) 7) (G 6 4) (G 5 1) (G 5 3) (G 5 4) (G 5 5) (xz xs (i + 1)) (xz xs (i + 2))))]) C dL_law_344 (c_X9_counter l D d (b 9) (a 9) (g 9) (G 9 8) (G 9 9) (G 9 22) (G 9 23) (G 9 24) (G 9 25) (xz xs (i + 1)) (xz xs (i + 2)) (by rw [← j3.1.2.1]; exact j3.1.2.2.2) (by rw [← j4.1.1]; exact j4.1.2.2.1) j3.2.2.1.2.1 j4.2.2.1.2.1 (by rw [← j4.2.2.2.1.1]; exact j4.2.2.2.2.1.1) (by rw [← j4.2.2.2.1.2.1]; exact j4.2.2.2.2.1.2.1) (by rw [← j4.2.2.2.1.2.2.1]; exact j4.2.2.2.2.1.2.2.1) (by rw [← j4.2.2.2.1.2.2.2]; exact j4.2.2.2.2.1.2.2.2) (xz_sm xs _) (xz_sm xs _)) [63, 67, 68, 77, 78, 79, 80] rfl rfl 63 rfl rfl rfl (Nat.le_of_ble_eq_true rfl) ⟨Nat.le_of_ble_eq_true rfl, Nat.le_of_ble_eq_true rfl⟩ ⟨Nat.le_of_ble_eq_true rfl, Nat.le_of_ble_eq_true rfl⟩ (fun _ => rfl) (fun _ => by simp only [lawW, wput, List.zip_cons_cons, List.zip_nil_right, List.foldl_cons, List.foldl_nil, List.set_cons_succ, List.set_cons_zero, up, reduceIte, Nat.reduceEqDiff, Nat.reduceSub]) (fun _ => rfl) ?_
  intro _ _
  exact V_icmp_same (pc := 347) 1337 C dL_law_347 (by decide) (e_counter j3 j4) (kk a (up g 9 (up (g 9) 0 0)) G ⟨j1, j2, j3, j4, j5, j5', j6, j7, j8, j10⟩)
set_option maxRecDepth 100000 in
set_option maxHeartbeats 4000000 in
theorem law_barred {p : Program} {l : Launch} {e : Env} {s : State} {m : MethodId} {args : Array Value} {below : List Frame} {meth : Method} {c : Code} {A : Nat → Prop} {D : va_G} {d : Nat → ClassId} {Q : State → Prop} {bs L : Nat} {xs : Nat → Int32} {b : Nat → Nat} {a : Nat → Nat → Nat} {sl rw : Nat → Option Nat} {g : Nat → Nat → Int} {G : Nat → Nat → Int → Int} {i : Int} (C : CX p s m args c D d cL_law 4 RL) (X : SX s A bs L xs) (hi : 0 ≤ i ∧ i + 5 < L) (hJ : JJ b a sl rw g G)
    (kk : ∀ (a' : Nat → Nat → Nat) (g' : Nat → Nat → Int) (G' : Nat → Nat → Int → Int), JJ b a' sl rw g' G' → V p l e room_1 s m args below meth c A D Q 4 98 19494 (lawW d b a' sl rw g' G') [(3, .int (iI i)), (2, .ref (b 9)), (1, .ref (b 8)), (0, .ref bs)] 1337 []) : V p l e room_1 s m args below meth c A D Q 4 98 19494 (lawW d b a sl rw g G) [(3, .int (iI i)), (2, .ref (b 9)), (1, .ref (b 8)), (0, .ref bs)] 352 [] := by
  obtain ⟨j1, j2, j3, j4, j5, j5', j6, j7, j8, j10⟩ := hJ
  refine V_aload_n (pc := 352) C dL_law_352 rfl 2 rfl ?_
  refine V_aload_n (pc := 353) C dL_law_353 rfl 3 rfl ?_
  refine V_iload_n (pc := 354) C dL_law_354 rfl 0 rfl ?_
  refine V_iconst (pc := 355) C dL_law_355 ?_
  refine V_iadd (pc := 356) C dL_law_356 ?_
  refine V_sld (pc := 357) X C dL_law_357 (by omega) (by omega) ?_
  refine V_aload_n (pc := 358) C dL_law_358 rfl 3 rfl ?_
  refine V_iload_n (pc := 359) C dL_law_359 rfl 0 rfl ?_
  refine V_iconst (pc := 360) C dL_law_360 ?_
  refine V_iadd (pc := 361) C dL_law_361 ?_
  refine V_sld (pc := 362) X C dL_law_362 (by omega) (by omega) ?_
  refine cv_L_42 (pc := 363) (rest := []) (wn := fun _ => lawW d b a sl rw g G) (sn := fun _ => [.int (iI (pBarred ((g 6) 6) ((g 6) 7) (fun i c => bitI ((G 6 3) i) c) (xz xs (i + 1)) (xz xs (i + 2))))]) C dL_law_363 (c_X8_barred l D d (b 8) (a 8) (g 8) (a 6) (g 6) (G 6 3) (xz xs (i + 1)) (xz xs (i + 2)) j3.1.2.2.1 j3.1.2.2.2 j3.2.2.2.1.1 (xz_sm xs _) (xz_sm xs _)) [0, 4, 8] rfl rfl 0 rfl rfl rfl (Nat.le_of_ble_eq_true rfl) ⟨Nat.le_of_ble_eq_true rfl, Nat.le_of_ble_eq_true rfl⟩ ⟨Nat.le_of_ble_eq_true rfl, Nat.le_of_ble_eq_true rfl⟩ (fun _ => rfl) (fun _ => by simp only [lawW, wput, List.zip_cons_cons, List.zip_nil_right, List.foldl_cons, List.foldl_nil, List.set_cons_succ, List.set_cons_zero, up, reduceIte, Nat.reduceEqDiff, Nat.reduceSub]) (fun _ => rfl) ?_
  intro _ _
  refine V_aload_n (pc := 366) C dL_law_366 rfl 1 rfl ?_
  refine V_aload_n (pc := 367) C dL_law_367 rfl 3 rfl ?_
  refine V_iload_n (pc := 368) C dL_law_368 rfl 0 rfl ?_
  refine V_iconst (pc := 369) C dL_law_369 ?_
  refine V_iadd (pc := 370) C dL_law_370 ?_
  refine V_sld (pc := 371) X C dL_law_371 (by omega) (by omega) ?_
  refine V_aload_n (pc := 372) C dL_law_372 rfl 3 rfl ?_
  refine V_iload_n (pc := 373) C dL_law_373 rfl 0 rfl ?_
  refine V_iconst (pc := 374) C dL_law_374 ?_
  refine V_iadd (pc := 375) C dL_law_375 ?_
  refine V_sld (pc := 376) X C dL_law_376 (by omega) (by omega) ?_
  refine cv_L_45 (pc := 377) (rest := [.int (iI (pBarred ((g 6) 6) ((g 6) 7) (fun i c => bitI ((G 6 3) i) c) (xz xs (i + 1)) (xz xs (i + 2))))]) (wn := fun _ => lawW d b a sl rw (up g 9 (up (g 9) 0 0)) G) (sn := fun _ => [.int (iI (pBarred ((g 9) 4) ((g 9) 5) (fun i c => (G 9 10) (4 * i + c)) (xz xs (i + 1)) (xz xs (i + 2)))), .int (iI (pBarred ((g 6) 6) ((g 6) 7) (fun i c => bitI ((G 6 3) i) c) (xz xs (i + 1)) (xz xs (i + 2))))]) C dL_law_377 (c_X9_barred l D d (b 9) (a 9) (g 9) (G 9 10) (xz xs (i + 1)) (xz xs (i + 2)) (by rw [← j3.1.1]; exact j3.1.2.2.1) (by rw [← j3.1.2.1]; exact j3.1.2.2.2) j3.2.2.2.1.2.1 (xz_sm xs _) (xz_sm xs _)) [63, 69] rfl rfl 63 rfl rfl rfl (Nat.le_of_ble_eq_true rfl) ⟨Nat.le_of_ble_eq_true rfl, Nat.le_of_ble_eq_true rfl⟩ ⟨Nat.le_of_ble_eq_true rfl, Nat.le_of_ble_eq_true rfl⟩ (fun _ => rfl) (fun _ => by simp only [lawW, wput, List.zip_cons_cons, List.zip_nil_right, List.foldl_cons, List.foldl_nil, List.set_cons_succ, List.set_cons_zero, up, reduceIte, Nat.reduceEqDiff, Nat.reduceSub]) (fun _ => rfl) ?_
  intro _ _
  exact V_icmp_same (pc := 380) 1337 C dL_law_380 (by decide) (e_barred j3) (kk a (up g 9 (up (g 9) 0 0)) G ⟨j1, j2, j3, j4, j5, j5', j6, j7, j8, j10⟩)
set_option maxRecDepth 100000 in
set_option maxHeartbeats 4000000 in
theorem law_plaster {p : Program} {l : Launch} {e : Env} {s : State} {m : MethodId} {args : Array Value} {below : List Frame} {meth : Method} {c : Code} {A : Nat → Prop} {D : va_G} {d : Nat → ClassId} {Q : State → Prop} {bs L : Nat} {xs : Nat → Int32} {b : Nat → Nat} {a : Nat → Nat → Nat} {sl rw : Nat → Option Nat} {g : Nat → Nat → Int} {G : Nat → Nat → Int → Int} {i : Int} (C : CX p s m args c D d cL_law 4 RL) (X : SX s A bs L xs) (hi : 0 ≤ i ∧ i + 5 < L) (hJ : JJ b a sl rw g G)
    (kk : ∀ (a' : Nat → Nat → Nat) (g' : Nat → Nat → Int) (G' : Nat → Nat → Int → Int), JJ b a' sl rw g' G' → V p l e room_1 s m args below meth c A D Q 4 98 19494 (lawW d b a' sl rw g' G') [(3, .int (iI i)), (2, .ref (b 9)), (1, .ref (b 8)), (0, .ref bs)] 1337 []) : V p l e room_1 s m args below meth c A D Q 4 98 19494 (lawW d b a sl rw g G) [(3, .int (iI i)), (2, .ref (b 9)), (1, .ref (b 8)), (0, .ref bs)] 385 [] := by
  obtain ⟨j1, j2, j3, j4, j5, j5', j6, j7, j8, j10⟩ := hJ
  refine V_aload_n (pc := 385) C dL_law_385 rfl 2 rfl ?_
  refine V_aload_n (pc := 386) C dL_law_386 rfl 3 rfl ?_
  refine V_iload_n (pc := 387) C dL_law_387 rfl 0 rfl ?_
  refine V_iconst (pc := 388) C dL_law_388 ?_
  refine V_iadd (pc := 389) C dL_law_389 ?_
  refine V_sld (pc := 390) X C dL_law_390 (by omega) (by omega) ?_
  refine V_aload_n (pc := 391) C dL_law_391 rfl 3 rfl ?_
  refine V_iload_n (pc := 392) C dL_law_392 rfl 0 rfl ?_
  refine V_iconst (pc := 393) C dL_law_393 ?_
  refine V_iadd (pc := 394) C dL_law_394 ?_
  refine V_sld (pc := 395) X C dL_law_395 (by omega) (by omega) ?_
  refine cv_L_46 (pc := 396) (rest := []) (wn := fun u9 => lawW d b a sl rw g (up G 5 (up (G 5) 0 u9.2))) (sn := fun u9 => [.int (iI (u9.1))]) C dL_law_396 (c_X8_plaster l D d (b 8) (a 8) (g 8) (a 6) (g 6) (a 5) (g 5) (G 5 0) (xz xs (i + 1)) (xz xs (i + 2)) j3.1.2.2.1 j4.2.1.1 (xz_sm xs _) (xz_sm xs _)) [0, 4, 18, 19] rfl rfl 0 rfl rfl rfl (Nat.le_of_ble_eq_true rfl) ⟨Nat.le_of_ble_eq_true rfl, Nat.le_of_ble_eq_true rfl⟩ ⟨Nat.le_of_ble_eq_true rfl, Nat.le_of_ble_eq_true rfl⟩ (fun u9 => rfl) (fun u9 => by simp only [lawW, wput, List.zip_cons_cons, List.zip_nil_right, List.foldl_cons, List.foldl_nil, List.set_cons_succ, List.set_cons_zero, up, reduceIte, Nat.reduceEqDiff, Nat.reduceSub]) (fun u9 => rfl) ?_
  rintro u hu
  refine V_aload_n (pc := 399) C dL_law_399 rfl 1 rfl ?_
  refine V_aload_n (pc := 400) C dL_law_400 rfl 3 rfl ?_
  refine V_iload_n (pc := 401) C dL_law_401 rfl 0 rfl ?_
  refine V_iconst (pc := 402) C dL_law_402 ?_
  refine V_iadd (pc := 403) C dL_law_403 ?_
  refine V_sld (pc := 404) X C dL_law_404 (by omega) (by omega) ?_
  refine V_aload_n (pc := 405) C dL_law_405 rfl 3 rfl ?_
  refine V_iload_n (pc := 406) C dL_law_406 rfl 0 rfl ?_
  refine V_iconst (pc := 407) C dL_law_407 ?_
  refine V_iadd (pc := 408) C dL_law_408 ?_
  refine V_sld (pc := 409) X C dL_law_409 (by omega) (by omega) ?_
  refine cv_L_49 (pc := 410) (rest := [.int (iI (u.1))]) (wn := fun u9 => lawW d b a sl rw (up g 9 (up (g 9) 0 0)) (up (up G 5 (up (G 5) 0 u.2)) 9 (up (G 9) 6 u9.2))) (sn := fun u9 => [.int (iI (u9.1)), .int (iI (u.1))]) C dL_law_410 (c_X9_plaster l D d (b 9) (a 9) (g 9) (G 9 6) (xz xs (i + 1)) (xz xs (i + 2)) (by rw [← j3.1.1]; exact j3.1.2.2.1) j4.2.1.2.1 (xz_sm xs _) (xz_sm xs _)) [63, 65] rfl rfl 63 rfl rfl rfl (Nat.le_of_ble_eq_true rfl) ⟨Nat.le_of_ble_eq_true rfl, Nat.le_of_ble_eq_true rfl⟩ ⟨Nat.le_of_ble_eq_true rfl, Nat.le_of_ble_eq_true rfl⟩ (fun u9 => rfl) (fun u9 => by simp only [lawW, wput, List.zip_cons_cons, List.zip_nil_right, List.foldl_cons, List.foldl_nil, List.set_cons_succ, List.set_cons_zero, up, reduceIte, Nat.reduceEqDiff, Nat.reduceSub]) (fun u9 => rfl) ?_
  rintro v hv
  have key := s_plaster j3.1.1 j4 hu hv
  exact V_icmp_same (pc := 413) 1337 C dL_law_413 (by decide) (key.1) (kk a (up g 9 (up (g 9) 0 0)) (up (up G 5 (up (G 5) 0 u.2)) 9 (up (G 9) 6 v.2)) ⟨j1, j2, j3, key.2, j5, j5', j6, j7, j8, j10⟩)
set_option maxRecDepth 100000 in
set_option maxHeartbeats 4000000 in
theorem law_common {p : Program} {l : Launch} {e : Env} {s : State} {m : MethodId} {args : Array Value} {below : List Frame} {meth : Method} {c : Code} {A : Nat → Prop} {D : va_G} {d : Nat → ClassId} {Q : State → Prop} {bs L : Nat} {xs : Nat → Int32} {b : Nat → Nat} {a : Nat → Nat → Nat} {sl rw : Nat → Option Nat} {g : Nat → Nat → Int} {G : Nat → Nat → Int → Int} {i : Int} (C : CX p s m args c D d cL_law 4 RL) (X : SX s A bs L xs) (hi : 0 ≤ i ∧ i + 5 < L) (hJ : JJ b a sl rw g G)
    (kk : ∀ (a' : Nat → Nat → Nat) (g' : Nat → Nat → Int) (G' : Nat → Nat → Int → Int), JJ b a' sl rw g' G' → V p l e room_1 s m args below meth c A D Q 4 98 19494 (lawW d b a' sl rw g' G') [(3, .int (iI i)), (2, .ref (b 9)), (1, .ref (b 8)), (0, .ref bs)] 1337 []) : V p l e room_1 s m args below meth c A D Q 4 98 19494 (lawW d b a sl rw g G) [(3, .int (iI i)), (2, .ref (b 9)), (1, .ref (b 8)), (0, .ref bs)] 418 [] := by
  obtain ⟨j1, j2, j3, j4, j5, j5', j6, j7, j8, j10⟩ := hJ
  refine V_aload_n (pc := 418) C dL_law_418 rfl 2 rfl ?_
  refine V_aload_n (pc := 419) C dL_law_419 rfl 3 rfl ?_
  refine V_iload_n (pc := 420) C dL_law_420 rfl 0 rfl ?_
  refine V_iconst (pc := 421) C dL_law_421 ?_
  refine V_iadd (pc := 422) C dL_law_422 ?_
  refine V_sld (pc := 423) X C dL_law_423 (by omega) (by omega) ?_
  refine cv_L_50 (pc := 424) (rest := []) (wn := fun u9 => lawW d b a sl rw (up g 5 (up (g 5) 7 u9.2)) G) (sn := fun u9 => [.int (iI (u9.1))]) C dL_law_424 (c_X8_common l D d (b 8) (a 8) (g 8) (a 5) (g 5) (xz xs (i + 1)) (xz_sm xs _)) [0, 18] rfl rfl 0 rfl rfl rfl (Nat.le_of_ble_eq_true rfl) ⟨Nat.le_of_ble_eq_true rfl, Nat.le_of_ble_eq_true rfl⟩ ⟨Nat.le_of_ble_eq_true rfl, Nat.le_of_ble_eq_true rfl⟩ (fun u9 => rfl) (fun u9 => by simp only [lawW, wput, List.zip_cons_cons, List.zip_nil_right, List.foldl_cons, List.foldl_nil, List.set_cons_succ, List.set_cons_zero, up, reduceIte, Nat.reduceEqDiff, Nat.reduceSub]) (fun u9 => rfl) ?_
  rintro u hu
  refine V_aload_n (pc := 427) C dL_law_427 rfl 1 rfl ?_
  refine V_aload_n (pc := 428) C dL_law_428 rfl 3 rfl ?_
  refine V_iload_n (pc := 429) C dL_law_429 rfl 0 rfl ?_
  refine V_iconst (pc := 430) C dL_law_430 ?_
  refine V_iadd (pc := 431) C dL_law_431 ?_
  refine V_sld (pc := 432) X C dL_law_432 (by omega) (by omega) ?_
  refine cv_L_54 (pc := 433) (rest := [.int (iI (u.1))]) (wn := fun u9 => lawW d b a sl rw (up (up g 5 (up (g 5) 7 u.2)) 9 (up (up (g 9) 0 0) 13 u9.2)) G) (sn := fun u9 => [.int (iI (u9.1)), .int (iI (u.1))]) C dL_law_433 (c_X9_common l D d (b 9) (a 9) (g 9) (xz xs (i + 1)) (xz_sm xs _)) [63] rfl rfl 63 rfl rfl rfl (Nat.le_of_ble_eq_true rfl) ⟨Nat.le_of_ble_eq_true rfl, Nat.le_of_ble_eq_true rfl⟩ ⟨Nat.le_of_ble_eq_true rfl, Nat.le_of_ble_eq_true rfl⟩ (fun u9 => rfl) (fun u9 => by simp only [lawW, wput, List.zip_cons_cons, List.zip_nil_right, List.foldl_cons, List.foldl_nil, List.set_cons_succ, List.set_cons_zero, up, reduceIte, Nat.reduceEqDiff, Nat.reduceSub]) (fun u9 => rfl) ?_
  rintro v hv
  have key := s_common j4 hu hv
  exact V_icmp_same (pc := 436) 1337 C dL_law_436 (by decide) (key.1) (kk a (up (up g 5 (up (g 5) 7 u.2)) 9 (up (up (g 9) 0 0) 13 v.2)) G ⟨j1, j2, j3, key.2, j5, j5', j6, j7, j8, j10⟩)
set_option maxRecDepth 100000 in
set_option maxHeartbeats 4000000 in
theorem law_buy {p : Program} {l : Launch} {e : Env} {s : State} {m : MethodId} {args : Array Value} {below : List Frame} {meth : Method} {c : Code} {A : Nat → Prop} {D : va_G} {d : Nat → ClassId} {Q : State → Prop} {bs L : Nat} {xs : Nat → Int32} {b : Nat → Nat} {a : Nat → Nat → Nat} {sl rw : Nat → Option Nat} {g : Nat → Nat → Int} {G : Nat → Nat → Int → Int} {i : Int} (C : CX p s m args c D d cL_law 4 RL) (X : SX s A bs L xs) (hi : 0 ≤ i ∧ i + 5 < L) (hJ : JJ b a sl rw g G)
    (kk : ∀ (a' : Nat → Nat → Nat) (g' : Nat → Nat → Int) (G' : Nat → Nat → Int → Int), JJ b a' sl rw g' G' → V p l e room_1 s m args below meth c A D Q 4 98 19494 (lawW d b a' sl rw g' G') [(3, .int (iI i)), (2, .ref (b 9)), (1, .ref (b 8)), (0, .ref bs)] 1337 []) : V p l e room_1 s m args below meth c A D Q 4 98 19494 (lawW d b a sl rw g G) [(3, .int (iI i)), (2, .ref (b 9)), (1, .ref (b 8)), (0, .ref bs)] 441 [] := by
  obtain ⟨j1, j2, j3, j4, j5, j5', j6, j7, j8, j10⟩ := hJ
  refine V_aload_n (pc := 441) C dL_law_441 rfl 2 rfl ?_
  refine V_aload_n (pc := 442) C dL_law_442 rfl 3 rfl ?_
  refine V_iload_n (pc := 443) C dL_law_443 rfl 0 rfl ?_
  refine V_iconst (pc := 444) C dL_law_444 ?_
  refine V_iadd (pc := 445) C dL_law_445 ?_
  refine V_sld (pc := 446) X C dL_law_446 (by omega) (by omega) ?_
  refine V_aload_n (pc := 447) C dL_law_447 rfl 3 rfl ?_
  refine V_iload_n (pc := 448) C dL_law_448 rfl 0 rfl ?_
  refine V_iconst (pc := 449) C dL_law_449 ?_
  refine V_iadd (pc := 450) C dL_law_450 ?_
  refine V_sld (pc := 451) X C dL_law_451 (by omega) (by omega) ?_
  refine V_aload_n (pc := 452) C dL_law_452 rfl 3 rfl ?_
  refine V_iload_n (pc := 453) C dL_law_453 rfl 0 rfl ?_
  refine V_iconst (pc := 454) C dL_law_454 ?_
  refine V_iadd (pc := 455) C dL_law_455 ?_
  refine V_sld (pc := 456) X C dL_law_456 (by omega) (by omega) ?_
  refine cv_L_55 (pc := 457) (rest := []) (wn := fun u9 => lawW d b a sl rw (up g 5 (up (g 5) 6 u9.2.1)) (up G 5 (up (up (up (up (up (G 5) 1 u9.2.2.1) 2 u9.2.2.2.1) 3 u9.2.2.2.2.1) 4 u9.2.2.2.2.2.1) 5 u9.2.2.2.2.2.2))) (sn := fun u9 => [.int (iI (u9.1))]) C dL_law_457 (c_X8_buy l D d (b 8) (a 8) (g 8) (a 6) (g 6) (a 5) (g 5) (G 6 3) (G 5 0) (G 5 1) (G 5 2) (G 5 3) (G 5 4) (G 5 5) (xz xs (i + 1)) (xz xs (i + 2)) (xz xs (i + 3)) j3.1.2.2.1 j3.1.2.2.2 j4.1.2.2.1 j3.2.2.2.1.1 j4.2.1.1 j4.2.2.1.1 (xz_sm xs _) (xz_sm xs _) (xz_sm xs _)) [0, 4, 8, 18, 19, 20, 21, 22, 23, 24] rfl rfl 0 rfl rfl rfl (Nat.le_of_ble_eq_true rfl) ⟨Nat.le_of_ble_eq_true rfl, Nat.le_of_ble_eq_true rfl⟩ ⟨Nat.le_of_ble_eq_true rfl, Nat.le_of_ble_eq_true rfl⟩ (fun u9 => rfl) (fun u9 => by simp only [lawW, wput, List.zip_cons_cons, List.zip_nil_right, List.foldl_cons, List.foldl_nil, List.set_cons_succ, List.set_cons_zero, up, reduceIte, Nat.reduceEqDiff, Nat.reduceSub]) (fun u9 => rfl) ?_
  rintro u hu
  refine V_aload_n (pc := 460) C dL_law_460 rfl 1 rfl ?_
  refine V_aload_n (pc := 461) C dL_law_461 rfl 3 rfl ?_
  refine V_iload_n (pc := 462) C dL_law_462 rfl 0 rfl ?_
  refine V_iconst (pc := 463) C dL_law_463 ?_
  refine V_iadd (pc := 464) C dL_law_464 ?_
  refine V_sld (pc := 465) X C dL_law_465 (by omega) (by omega) ?_
  refine V_aload_n (pc := 466) C dL_law_466 rfl 3 rfl ?_
  refine V_iload_n (pc := 467) C dL_law_467 rfl 0 rfl ?_
  refine V_iconst (pc := 468) C dL_law_468 ?_
  refine V_iadd (pc := 469) C dL_law_469 ?_
  refine V_sld (pc := 470) X C dL_law_470 (by omega) (by omega) ?_
  refine V_aload_n (pc := 471) C dL_law_471 rfl 3 rfl ?_
  refine V_iload_n (pc := 472) C dL_law_472 rfl 0 rfl ?_
  refine V_iconst (pc := 473) C dL_law_473 ?_
  refine V_iadd (pc := 474) C dL_law_474 ?_
  refine V_sld (pc := 475) X C dL_law_475 (by omega) (by omega) ?_
  refine cv_L_59 (pc := 476) (rest := [.int (iI (u.1))]) (wn := fun u9 => lawW d b a sl rw (up (up g 5 (up (g 5) 6 u.2.1)) 9 (up (up (g 9) 0 0) 21 u9.2.1)) (up (up G 5 (up (up (up (up (up (G 5) 1 u.2.2.1) 2 u.2.2.2.1) 3 u.2.2.2.2.1) 4 u.2.2.2.2.2.1) 5 u.2.2.2.2.2.2)) 9 (up (up (up (up (up (G 9) 9 u9.2.2.1) 22 u9.2.2.2.1) 23 u9.2.2.2.2.1) 24 u9.2.2.2.2.2.1) 25 u9.2.2.2.2.2.2))) (sn := fun u9 => [.int (iI (u9.1)), .int (iI (u.1))]) C dL_law_476 (c_X9_buy l D d (b 9) (a 9) (g 9) (G 9 6) (G 9 9) (G 9 10) (G 9 22) (G 9 23) (G 9 24) (G 9 25) (xz xs (i + 1)) (xz xs (i + 2)) (xz xs (i + 3)) (by rw [← j3.1.1]; exact j3.1.2.2.1) (by rw [← j3.1.2.1]; exact j3.1.2.2.2) (by rw [← j4.1.1]; exact j4.1.2.2.1) j4.2.1.2.1 j4.2.2.1.2.1 j3.2.2.2.1.2.1 (xz_sm xs _) (xz_sm xs _) (xz_sm xs _)) [63, 65, 68, 69, 77, 78, 79, 80] rfl rfl 63 rfl rfl rfl (Nat.le_of_ble_eq_true rfl) ⟨Nat.le_of_ble_eq_true rfl, Nat.le_of_ble_eq_true rfl⟩ ⟨Nat.le_of_ble_eq_true rfl, Nat.le_of_ble_eq_true rfl⟩ (fun u9 => rfl) (fun u9 => by simp only [lawW, wput, List.zip_cons_cons, List.zip_nil_right, List.foldl_cons, List.foldl_nil, List.set_cons_succ, List.set_cons_zero, up, reduceIte, Nat.reduceEqDiff, Nat.reduceSub]) (fun u9 => rfl) ?_
  rintro v hv
  have key := s_buy j3 j4 hu hv
  exact V_icmp_same (pc := 479) 1337 C dL_law_479 (by decide) (key.1) (kk a (up (up g 5 (up (g 5) 6 u.2.1)) 9 (up (up (g 9) 0 0) 21 v.2.1)) (up (up G 5 (up (up (up (up (up (G 5) 1 u.2.2.1) 2 u.2.2.2.1) 3 u.2.2.2.2.1) 4 u.2.2.2.2.2.1) 5 u.2.2.2.2.2.2)) 9 (up (up (up (up (up (G 9) 9 v.2.2.1) 22 v.2.2.2.1) 23 v.2.2.2.2.1) 24 v.2.2.2.2.2.1) 25 v.2.2.2.2.2.2)) ⟨j1, j2, j3, key.2, j5, j5', j6, j7, j8, j10⟩)
set_option maxRecDepth 100000 in
set_option maxHeartbeats 4000000 in
theorem law_undo {p : Program} {l : Launch} {e : Env} {s : State} {m : MethodId} {args : Array Value} {below : List Frame} {meth : Method} {c : Code} {A : Nat → Prop} {D : va_G} {d : Nat → ClassId} {Q : State → Prop} {bs L : Nat} {xs : Nat → Int32} {b : Nat → Nat} {a : Nat → Nat → Nat} {sl rw : Nat → Option Nat} {g : Nat → Nat → Int} {G : Nat → Nat → Int → Int} {i : Int} (C : CX p s m args c D d cL_law 4 RL) (X : SX s A bs L xs) (hi : 0 ≤ i ∧ i + 5 < L) (hJ : JJ b a sl rw g G)
    (kk : ∀ (a' : Nat → Nat → Nat) (g' : Nat → Nat → Int) (G' : Nat → Nat → Int → Int), JJ b a' sl rw g' G' → V p l e room_1 s m args below meth c A D Q 4 98 19494 (lawW d b a' sl rw g' G') [(3, .int (iI i)), (2, .ref (b 9)), (1, .ref (b 8)), (0, .ref bs)] 1337 []) : V p l e room_1 s m args below meth c A D Q 4 98 19494 (lawW d b a sl rw g G) [(3, .int (iI i)), (2, .ref (b 9)), (1, .ref (b 8)), (0, .ref bs)] 484 [] := by
  obtain ⟨j1, j2, j3, j4, j5, j5', j6, j7, j8, j10⟩ := hJ
  refine V_aload_n (pc := 484) C dL_law_484 rfl 2 rfl ?_
  refine cv_L_60 (pc := 485) (rest := []) (wn := fun u9 => lawW d b a sl rw (up g 5 (up (g 5) 6 u9.2.1)) (up G 5 (up (G 5) 1 u9.2.2))) (sn := fun u9 => [.int (iI (u9.1))]) C dL_law_485 (c_X8_undo l D d (b 8) (a 8) (g 8) (a 5) (g 5) (G 5 1) (G 5 3) (G 5 5) j4.1.2.2.1 j4.2.2.2.2.1.2.1) [0, 18, 20, 22, 24] rfl rfl 0 rfl rfl rfl (Nat.le_of_ble_eq_true rfl) ⟨Nat.le_of_ble_eq_true rfl, Nat.le_of_ble_eq_true rfl⟩ ⟨Nat.le_of_ble_eq_true rfl, Nat.le_of_ble_eq_true rfl⟩ (fun u9 => rfl) (fun u9 => by simp only [lawW, wput, List.zip_cons_cons, List.zip_nil_right, List.foldl_cons, List.foldl_nil, List.set_cons_succ, List.set_cons_zero, up, reduceIte, Nat.reduceEqDiff, Nat.reduceSub]) (fun u9 => rfl) ?_
  rintro u hu
  refine V_aload_n (pc := 488) C dL_law_488 rfl 1 rfl ?_
  refine cv_L_63 (pc := 489) (rest := [.int (iI (u.1))]) (wn := fun u9 => lawW d b a sl rw (up (up g 5 (up (g 5) 6 u.2.1)) 9 (up (up (g 9) 0 0) 21 u9.2.1)) (up (up G 5 (up (G 5) 1 u.2.2)) 9 (up (G 9) 9 u9.2.2))) (sn := fun u9 => [.int (iI (u9.1)), .int (iI (u.1))]) C dL_law_489 (c_X9_undo l D d (b 9) (a 9) (g 9) (G 9 9) (G 9 23) (G 9 25) (by rw [← j4.1.1]; exact j4.1.2.2.1) (by rw [← j4.2.2.2.1.2.1]; exact j4.2.2.2.2.1.2.1)) [63, 68, 78, 80] rfl rfl 63 rfl rfl rfl (Nat.le_of_ble_eq_true rfl) ⟨Nat.le_of_ble_eq_true rfl, Nat.le_of_ble_eq_true rfl⟩ ⟨Nat.le_of_ble_eq_true rfl, Nat.le_of_ble_eq_true rfl⟩ (fun u9 => rfl) (fun u9 => by simp only [lawW, wput, List.zip_cons_cons, List.zip_nil_right, List.foldl_cons, List.foldl_nil, List.set_cons_succ, List.set_cons_zero, up, reduceIte, Nat.reduceEqDiff, Nat.reduceSub]) (fun u9 => rfl) ?_
  rintro v hv
  have key := s_undo j4 hu hv
  exact V_icmp_same (pc := 492) 1337 C dL_law_492 (by decide) (key.1) (kk a (up (up g 5 (up (g 5) 6 u.2.1)) 9 (up (up (g 9) 0 0) 21 v.2.1)) (up (up G 5 (up (G 5) 1 u.2.2)) 9 (up (G 9) 9 v.2.2)) ⟨j1, j2, j3, key.2, j5, j5', j6, j7, j8, j10⟩)
set_option maxRecDepth 100000 in
set_option maxHeartbeats 4000000 in
theorem law_sale {p : Program} {l : Launch} {e : Env} {s : State} {m : MethodId} {args : Array Value} {below : List Frame} {meth : Method} {c : Code} {A : Nat → Prop} {D : va_G} {d : Nat → ClassId} {Q : State → Prop} {bs L : Nat} {xs : Nat → Int32} {b : Nat → Nat} {a : Nat → Nat → Nat} {sl rw : Nat → Option Nat} {g : Nat → Nat → Int} {G : Nat → Nat → Int → Int} {i : Int} (C : CX p s m args c D d cL_law 4 RL) (X : SX s A bs L xs) (hi : 0 ≤ i ∧ i + 5 < L) (hJ : JJ b a sl rw g G)
    (kk : ∀ (a' : Nat → Nat → Nat) (g' : Nat → Nat → Int) (G' : Nat → Nat → Int → Int), JJ b a' sl rw g' G' → V p l e room_1 s m args below meth c A D Q 4 98 19494 (lawW d b a' sl rw g' G') [(3, .int (iI i)), (2, .ref (b 9)), (1, .ref (b 8)), (0, .ref bs)] 1337 []) : V p l e room_1 s m args below meth c A D Q 4 98 19494 (lawW d b a sl rw g G) [(3, .int (iI i)), (2, .ref (b 9)), (1, .ref (b 8)), (0, .ref bs)] 497 [] := by
  obtain ⟨j1, j2, j3, j4, j5, j5', j6, j7, j8, j10⟩ := hJ
  refine V_aload_n (pc := 497) C dL_law_497 rfl 2 rfl ?_
  refine V_aload_n (pc := 498) C dL_law_498 rfl 3 rfl ?_
  refine V_iload_n (pc := 499) C dL_law_499 rfl 0 rfl ?_
  refine V_iconst (pc := 500) C dL_law_500 ?_
  refine V_iadd (pc := 501) C dL_law_501 ?_
  refine V_sld (pc := 502) X C dL_law_502 (by omega) (by omega) ?_
  refine V_aload_n (pc := 503) C dL_law_503 rfl 3 rfl ?_
  refine V_iload_n (pc := 504) C dL_law_504 rfl 0 rfl ?_
  refine V_iconst (pc := 505) C dL_law_505 ?_
  refine V_iadd (pc := 506) C dL_law_506 ?_
  refine V_sld (pc := 507) X C dL_law_507 (by omega) (by omega) ?_
  refine cv_L_64 (pc := 508) (rest := []) (wn := fun _ => lawW d b a sl rw g G) (sn := fun _ => [.int (iI (pSale ((g 5) 6) (G 5 2) (G 5 3) (G 5 4) (G 5 5) (xz xs (i + 1)) (xz xs (i + 2))))]) C dL_law_508 (c_X8_sale l D d (b 8) (a 8) (g 8) (a 5) (g 5) (G 5 2) (G 5 3) (G 5 4) (G 5 5) (xz xs (i + 1)) (xz xs (i + 2)) j4.1.2.2.1 (xz_sm xs _) (xz_sm xs _)) [0, 18, 21, 22, 23, 24] rfl rfl 0 rfl rfl rfl (Nat.le_of_ble_eq_true rfl) ⟨Nat.le_of_ble_eq_true rfl, Nat.le_of_ble_eq_true rfl⟩ ⟨Nat.le_of_ble_eq_true rfl, Nat.le_of_ble_eq_true rfl⟩ (fun _ => rfl) (fun _ => by simp only [lawW, wput, List.zip_cons_cons, List.zip_nil_right, List.foldl_cons, List.foldl_nil, List.set_cons_succ, List.set_cons_zero, up, reduceIte, Nat.reduceEqDiff, Nat.reduceSub]) (fun _ => rfl) ?_
  intro _ _
  refine V_aload_n (pc := 511) C dL_law_511 rfl 1 rfl ?_
  refine V_aload_n (pc := 512) C dL_law_512 rfl 3 rfl ?_
  refine V_iload_n (pc := 513) C dL_law_513 rfl 0 rfl ?_
  refine V_iconst (pc := 514) C dL_law_514 ?_
  refine V_iadd (pc := 515) C dL_law_515 ?_
  refine V_sld (pc := 516) X C dL_law_516 (by omega) (by omega) ?_
  refine V_aload_n (pc := 517) C dL_law_517 rfl 3 rfl ?_
  refine V_iload_n (pc := 518) C dL_law_518 rfl 0 rfl ?_
  refine V_iconst (pc := 519) C dL_law_519 ?_
  refine V_iadd (pc := 520) C dL_law_520 ?_
  refine V_sld (pc := 521) X C dL_law_521 (by omega) (by omega) ?_
  refine cv_L_67 (pc := 522) (rest := [.int (iI (pSale ((g 5) 6) (G 5 2) (G 5 3) (G 5 4) (G 5 5) (xz xs (i + 1)) (xz xs (i + 2))))]) (wn := fun _ => lawW d b a sl rw (up g 9 (up (g 9) 0 0)) G) (sn := fun _ => [.int (iI (pSale ((g 9) 21) (G 9 22) (G 9 23) (G 9 24) (G 9 25) (xz xs (i + 1)) (xz xs (i + 2)))), .int (iI (pSale ((g 5) 6) (G 5 2) (G 5 3) (G 5 4) (G 5 5) (xz xs (i + 1)) (xz xs (i + 2))))]) C dL_law_522 (c_X9_sale l D d (b 9) (a 9) (g 9) (G 9 22) (G 9 23) (G 9 24) (G 9 25) (xz xs (i + 1)) (xz xs (i + 2)) (by rw [← j4.1.1]; exact j4.1.2.2.1) (xz_sm xs _) (xz_sm xs _)) [63, 77, 78, 79, 80] rfl rfl 63 rfl rfl rfl (Nat.le_of_ble_eq_true rfl) ⟨Nat.le_of_ble_eq_true rfl, Nat.le_of_ble_eq_true rfl⟩ ⟨Nat.le_of_ble_eq_true rfl, Nat.le_of_ble_eq_true rfl⟩ (fun _ => rfl) (fun _ => by simp only [lawW, wput, List.zip_cons_cons, List.zip_nil_right, List.foldl_cons, List.foldl_nil, List.set_cons_succ, List.set_cons_zero, up, reduceIte, Nat.reduceEqDiff, Nat.reduceSub]) (fun _ => rfl) ?_
  intro _ _
  exact V_icmp_same (pc := 525) 1337 C dL_law_525 (by decide) (e_sale j4) (kk a (up g 9 (up (g 9) 0 0)) G ⟨j1, j2, j3, j4, j5, j5', j6, j7, j8, j10⟩)
