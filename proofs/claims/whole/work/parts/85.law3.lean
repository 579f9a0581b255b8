set_option maxRecDepth 100000 in
set_option maxHeartbeats 4000000 in
theorem law_fairest {p : Program} {l : Launch} {e : Env} {s : State} {m : MethodId} {args : Array Value} {below : List Frame} {meth : Method} {c : Code} {A : Nat → Prop} {D : va_G} {d : Nat → ClassId} {Q : State → Prop} {bs L : Nat} {xs : Nat → Int32} {b : Nat → Nat} {a : Nat → Nat → Nat} {sl rw : Nat → Option Nat} {g : Nat → Nat → Int} {G : Nat → Nat → Int → Int} {i : Int} (C : CX p s m args c D d cL_law 4 RL) (X : SX s A bs L xs) (hi : 0 ≤ i ∧ i + 5 < L) (hJ : JJ b a sl rw g G)
    (kk : ∀ (a' : Nat → Nat → Nat) (g' : Nat → Nat → Int) (G' : Nat → Nat → Int → Int), JJ b a' sl rw g' G' → V p l e room_1 s m args below meth c A D Q 4 98 19494 (lawW d b a' sl rw g' G') [(3, .int (iI i)), (2, .ref (b 9)), (1, .ref (b 8)), (0, .ref bs)] 1337 []) : V p l e room_1 s m args below meth c A D Q 4 98 19494 (lawW d b a sl rw g G) [(3, .int (iI i)), (2, .ref (b 9)), (1, .ref (b 8)), (0, .ref bs)] 1005 [] := by
  obtain ⟨j1, j2, j3, j4, j5, j5', j6, j7, j8, j10⟩ := hJ
  refine V_aload_n (pc := 1005) C dL_law_1005 rfl 2 rfl ?_
  refine cv_L_120 (pc := 1006) (rest := []) (wn := fun _ => lawW d b a sl rw g G) (sn := fun _ => [.int (iI (pFairest ((g 6) 6) (G 5 0) (fun j => bitI ((g 6) 9) j)))]) C dL_law_1006 (c_X8_fairest l D d (b 8) (a 8) (g 8) (a 6) (g 6) (a 5) (g 5) (G 5 0) j3.1.2.2.1 j3.2.2.2.2.2.1 j4.2.1.1) [0, 4, 18, 19] rfl rfl 0 rfl rfl rfl (Nat.le_of_ble_eq_true rfl) ⟨Nat.le_of_ble_eq_true rfl, Nat.le_of_ble_eq_true rfl⟩ ⟨Nat.le_of_ble_eq_true rfl, Nat.le_of_ble_eq_true rfl⟩ (fun _ => rfl) (fun _ => by simp only [lawW, wput, List.zip_cons_cons, List.zip_nil_right, List.foldl_cons, List.foldl_nil, List.set_cons_succ, List.set_cons_zero, up, reduceIte, Nat.reduceEqDiff, Nat.reduceSub]) (fun _ => rfl) ?_
  intro _ _
  refine V_aload_n (pc := 1009) C dL_law_1009 rfl 1 rfl ?_
  refine cv_L_123 (pc := 1010) (rest := [.int (iI (pFairest ((g 6) 6) (G 5 0) (fun j => bitI ((g 6) 9) j)))]) (wn := fun _ => lawW d b a sl rw (up g 9 (up (g 9) 0 0)) G) (sn := fun _ => [.int (iI (pFairest ((g 9) 4) (G 9 6) (G 9 12))), .int (iI (pFairest ((g 6) 6) (G 5 0) (fun j => bitI ((g 6) 9) j)))]) C dL_law_1010 (c_X9_fairest l D d (b 9) (a 9) (g 9) (G 9 6) (G 9 12) (by rw [← j3.1.1]; exact j3.1.2.2.1) j4.2.1.2.1 j3.2.2.2.2.2.2.1) [63, 65, 71] rfl rfl 63 rfl rfl rfl (Nat.le_of_ble_eq_true rfl) ⟨Nat.le_of_ble_eq_true rfl, Nat.le_of_ble_eq_true rfl⟩ ⟨Nat.le_of_ble_eq_true rfl, Nat.le_of_ble_eq_true rfl⟩ (fun _ => rfl) (fun _ => by simp only [lawW, wput, List.zip_cons_cons, List.zip_nil_right, List.foldl_cons, List.foldl_nil, List.set_cons_succ, List.set_cons_zero, up, reduceIte, Nat.reduceEqDiff, Nat.reduceSub]) (fun _ => rfl) ?_
  intro _ _
  exact V_icmp_same (pc := 1013) 1337 C dL_law_1013 (by decide) (e_fairest j3 j4) (kk a (up g 9 (up (g 9) 0 0)) G ⟨j1, j2, j3, j4, j5, j5', j6, j7, j8, j10⟩)
set_option maxRecDepth 100000 in
set_option maxHeartbeats 4000000 in
theorem law_cut {p : Program} {l : Launch} {e : Env} {s : State} {m : MethodId} {args : Array Value} {below : List Frame} {meth : Method} {c : Code} {A : Nat → Prop} {D : va_G} {d : Nat → ClassId} {Q : State → Prop} {bs L : Nat} {xs : Nat → Int32} {b : Nat → Nat} {a : Nat → Nat → Nat} {sl rw : Nat → Option Nat} {g : Nat → Nat → Int} {G : Nat → Nat → Int → Int} {i : Int} (C : CX p s m args c D d cL_law 4 RL) (X : SX s A bs L xs) (hi : 0 ≤ i ∧ i + 5 < L) (hJ : JJ b a sl rw g G)
    (kk : ∀ (a' : Nat → Nat → Nat) (g' : Nat → Nat → Int) (G' : Nat → Nat → Int → Int), JJ b a' sl rw g' G' → V p l e room_1 s m args below meth c A D Q 4 98 19494 (lawW d b a' sl rw g' G') [(3, .int (iI i)), (2, .ref (b 9)), (1, .ref (b 8)), (0, .ref bs)] 1337 []) : V p l e room_1 s m args below meth c A D Q 4 98 19494 (lawW d b a sl rw g G) [(3, .int (iI i)), (2, .ref (b 9)), (1, .ref (b 8)), (0, .ref bs)] 1018 [] := by
  obtain ⟨j1, j2, j3, j4, j5, j5', j6, j7, j8, j10⟩ := hJ
  refine V_aload_n (pc := 1018) C dL_law_1018 rfl 2 rfl ?_
  refine V_aload_n (pc := 1019) C dL_law_1019 rfl 3 rfl ?_
  refine V_iload_n (pc := 1020) C dL_law_1020 rfl 0 rfl ?_
  refine V_iconst (pc := 1021) C dL_law_1021 ?_
  refine V_iadd (pc := 1022) C dL_law_1022 ?_
  refine V_sld (pc := 1023) X C dL_law_1023 (by omega) (by omega) ?_
  refine V_aload_n (pc := 1024) C dL_law_1024 rfl 3 rfl ?_
  refine V_iload_n (pc := 1025) C dL_law_1025 rfl 0 rfl ?_
  refine V_iconst (pc := 1026) C dL_law_1026 ?_
  refine V_iadd (pc := 1027) C dL_law_1027 ?_
  refine V_sld (pc := 1028) X C dL_law_1028 (by omega) (by omega) ?_
  refine V_aload_n (pc := 1029) C dL_law_1029 rfl 3 rfl ?_
  refine V_iload_n (pc := 1030) C dL_law_1030 rfl 0 rfl ?_
  refine V_iconst (pc := 1031) C dL_law_1031 ?_
  refine V_iadd (pc := 1032) C dL_law_1032 ?_
  refine V_sld (pc := 1033) X C dL_law_1033 (by omega) (by omega) ?_
  refine V_bool (pc := 1034) C (xz_sm xs _) dL_law_1034 dL_law_1037 dL_law_1038 dL_law_1041 (by decide) (by decide) (fun w1 hw1 => ?_)
  have h01 := bI_or hw1
  refine cv_L_124 (pc := 1042) (rest := []) (wn := fun u9 => lawW d b a sl rw (up g 2 u9.2.1) (up G 2 (up (G 2) 0 u9.2.2))) (sn := fun u9 => [.int (iI (u9.1))]) C dL_law_1042 (c_X8_cut l D d (b 8) (a 8) (g 8) (a 6) (g 6) (a 5) (g 5) (a 2) (g 2) (G 5 0) (G 2 0) (xz xs (i + 1)) (xz xs (i + 2)) w1 j3.1.2.2.1 j4.2.1.1 j8.1 (xz_sm xs _) (xz_sm xs _) h01) [0, 4, 18, 19, 58, 59] rfl rfl 0 rfl rfl rfl (Nat.le_of_ble_eq_true rfl) ⟨Nat.le_of_ble_eq_true rfl, Nat.le_of_ble_eq_true rfl⟩ ⟨Nat.le_of_ble_eq_true rfl, Nat.le_of_ble_eq_true rfl⟩ (fun u9 => rfl) (fun u9 => by simp only [lawW, wput, List.zip_cons_cons, List.zip_nil_right, List.foldl_cons, List.foldl_nil, List.set_cons_succ, List.set_cons_zero, up, reduceIte, Nat.reduceEqDiff, Nat.reduceSub]) (fun u9 => rfl) ?_
  rintro u hu
  refine V_aload_n (pc := 1045) C dL_law_1045 rfl 1 rfl ?_
  refine V_aload_n (pc := 1046) C dL_law_1046 rfl 3 rfl ?_
  refine V_iload_n (pc := 1047) C dL_law_1047 rfl 0 rfl ?_
  refine V_iconst (pc := 1048) C dL_law_1048 ?_
  refine V_iadd (pc := 1049) C dL_law_1049 ?_
  refine V_sld (pc := 1050) X C dL_law_1050 (by omega) (by omega) ?_
  refine V_aload_n (pc := 1051) C dL_law_1051 rfl 3 rfl ?_
  refine V_iload_n (pc := 1052) C dL_law_1052 rfl 0 rfl ?_
  refine V_iconst (pc := 1053) C dL_law_1053 ?_
  refine V_iadd (pc := 1054) C dL_law_1054 ?_
  refine V_sld (pc := 1055) X C dL_law_1055 (by omega) (by omega) ?_
  refine V_aload_n (pc := 1056) C dL_law_1056 rfl 3 rfl ?_
  refine V_iload_n (pc := 1057) C dL_law_1057 rfl 0 rfl ?_
  refine V_iconst (pc := 1058) C dL_law_1058 ?_
  refine V_iadd (pc := 1059) C dL_law_1059 ?_
  refine V_sld (pc := 1060) X C dL_law_1060 (by omega) (by omega) ?_
  refine V_bool (pc := 1061) C (xz_sm xs _) dL_law_1061 dL_law_1064 dL_law_1065 dL_law_1068 (by decide) (by decide) (fun w2 hw2 => ?_)
  obtain rfl : w1 = w2 := hw1.trans hw2.symm
  refine cv_L_127 (pc := 1069) (rest := [.int (iI (u.1))]) (wn := fun u9 => lawW d b a sl rw (up (up g 2 u.2.1) 9 (up (g 9) 0 0)) (up (up G 2 (up (G 2) 0 u.2.2)) 9 (up (G 9) 47 u9.2))) (sn := fun u9 => [.int (iI (u9.1)), .int (iI (u.1))]) C dL_law_1069 (c_X9_cut l D d (b 9) (a 9) (g 9) (G 9 6) (G 9 47) (xz xs (i + 1)) (xz xs (i + 2)) w1 (by rw [← j3.1.1]; exact j3.1.2.2.1) j4.2.1.2.1 (fun j hj => by have h := j4.2.1.2.2 j (by rw [j3.1.1]; exact hj); rw [← h.1]; exact h.2) j8.2.1 (xz_sm xs _) (xz_sm xs _) h01) [63, 65, 97] rfl rfl 63 rfl rfl rfl (Nat.le_of_ble_eq_true rfl) ⟨Nat.le_of_ble_eq_true rfl, Nat.le_of_ble_eq_true rfl⟩ ⟨Nat.le_of_ble_eq_true rfl, Nat.le_of_ble_eq_true rfl⟩ (fun u9 => rfl) (fun u9 => by simp only [lawW, wput, List.zip_cons_cons, List.zip_nil_right, List.foldl_cons, List.foldl_nil, List.set_cons_succ, List.set_cons_zero, up, reduceIte, Nat.reduceEqDiff, Nat.reduceSub]) (fun u9 => rfl) ?_
  rintro v hv
  exact V_icmp_same (pc := 1072) 1337 C dL_law_1072 (by decide) (by rw [hu.1, hv.1, ← j3.1.1]; exact e_cut j3.1.2.2.1 j4.2.1.2.2) (kk a (up (up g 2 u.2.1) 9 (up (g 9) 0 0)) (up (up G 2 (up (G 2) 0 u.2.2)) 9 (up (G 9) 47 v.2)) ⟨j1, j2, j3, j4, j5, j5', j6, j7, ⟨hu.2, hv.2, j8.2.2⟩, j10⟩)
set_option maxRecDepth 100000 in
set_option maxHeartbeats 4000000 in
theorem law_when {p : Program} {l : Launch} {e : Env} {s : State} {m : MethodId} {args : Array Value} {below : List Frame} {meth : Method} {c : Code} {A : Nat → Prop} {D : va_G} {d : Nat → ClassId} {Q : State → Prop} {bs L : Nat} {xs : Nat → Int32} {b : Nat → Nat} {a : Nat → Nat → Nat} {sl rw : Nat → Option Nat} {g : Nat → Nat → Int} {G : Nat → Nat → Int → Int} {i : Int} (C : CX p s m args c D d cL_law 4 RL) (X : SX s A bs L xs) (hi : 0 ≤ i ∧ i + 5 < L) (hJ : JJ b a sl rw g G)
    (kk : ∀ (a' : Nat → Nat → Nat) (g' : Nat → Nat → Int) (G' : Nat → Nat → Int → Int), JJ b a' sl rw g' G' → V p l e room_1 s m args below meth c A D Q 4 98 19494 (lawW d b a' sl rw g' G') [(3, .int (iI i)), (2, .ref (b 9)), (1, .ref (b 8)), (0, .ref bs)] 1337 []) : V p l e room_1 s m args below meth c A D Q 4 98 19494 (lawW d b a sl rw g G) [(3, .int (iI i)), (2, .ref (b 9)), (1, .ref (b 8)), (0, .ref bs)] 1077 [] := by
  obtain ⟨j1, j2, j3, j4, j5, j5', j6, j7, j8, j10⟩ := hJ
  refine V_aload_n (pc := 1077) C dL_law_1077 rfl 2 rfl ?_
  refine V_aload_n (pc := 1078) C dL_law_1078 rfl 3 rfl ?_
  refine V_iload_n (pc := 1079) C dL_law_1079 rfl 0 rfl ?_
  refine V_iconst (pc := 1080) C dL_law_1080 ?_
  refine V_iadd (pc := 1081) C dL_law_1081 ?_
  refine V_sld (pc := 1082) X C dL_law_1082 (by omega) (by omega) ?_
  refine V_aload_n (pc := 1083) C dL_law_1083 rfl 3 rfl ?_
  refine V_iload_n (pc := 1084) C dL_law_1084 rfl 0 rfl ?_
  refine V_iconst (pc := 1085) C dL_law_1085 ?_
  refine V_iadd (pc := 1086) C dL_law_1086 ?_
  refine V_sld (pc := 1087) X C dL_law_1087 (by omega) (by omega) ?_
  refine V_aload_n (pc := 1088) C dL_law_1088 rfl 3 rfl ?_
  refine V_iload_n (pc := 1089) C dL_law_1089 rfl 0 rfl ?_
  refine V_iconst (pc := 1090) C dL_law_1090 ?_
  refine V_iadd (pc := 1091) C dL_law_1091 ?_
  refine V_sld (pc := 1092) X C dL_law_1092 (by omega) (by omega) ?_
  refine V_aload_n (pc := 1093) C dL_law_1093 rfl 3 rfl ?_
  refine V_iload_n (pc := 1094) C dL_law_1094 rfl 0 rfl ?_
  refine V_iconst (pc := 1095) C dL_law_1095 ?_
  refine V_iadd (pc := 1096) C dL_law_1096 ?_
  refine V_sld (pc := 1097) X C dL_law_1097 (by omega) (by omega) ?_
  refine cv_L_128 (pc := 1098) (rest := []) (wn := fun _ => lawW d b a sl rw g G) (sn := fun _ => [.int (iI (pWhen ((g 6) 6) ((g 6) 7) (G 5 0) (G 6 4) (xz xs (i + 1)) (xz xs (i + 2)) (xz xs (i + 3)) (xz xs (i + 4))))]) C dL_law_1098 (c_X8_when l D d (b 8) (a 8) (g 8) (a 6) (g 6) (a 5) (g 5) (G 6 4) (G 5 0) (xz xs (i + 1)) (xz xs (i + 2)) (xz xs (i + 3)) (xz xs (i + 4)) j3.1.2.2.1 j3.1.2.2.2 j3.2.2.1.1 j4.2.1.1 (xz_sm xs _) (xz_sm xs _) (xz_sm xs _) (xz_sm xs _)) [0, 4, 9, 18, 19] rfl rfl 0 rfl rfl rfl (Nat.le_of_ble_eq_true rfl) ⟨Nat.le_of_ble_eq_true rfl, Nat.le_of_ble_eq_true rfl⟩ ⟨Nat.le_of_ble_eq_true rfl, Nat.le_of_ble_eq_true rfl⟩ (fun _ => rfl) (fun _ => by simp only [lawW, wput, List.zip_cons_cons, List.zip_nil_right, List.foldl_cons, List.foldl_nil, List.set_cons_succ, List.set_cons_zero, up, reduceIte, Nat.reduceEqDiff, Nat.reduceSub]) (fun _ => rfl) ?_
  intro _ _
  refine V_aload_n (pc := 1101) C dL_law_1101 rfl 1 rfl ?_
  refine V_aload_n (pc := 1102) C dL_law_1102 rfl 3 rfl ?_
  refine V_iload_n (pc := 1103) C dL_law_1103 rfl 0 rfl ?_
  refine V_iconst (pc := 1104) C dL_law_1104 ?_
  refine V_iadd (pc := 1105) C dL_law_1105 ?_
  refine V_sld (pc := 1106) X C dL_law_1106 (by omega) (by omega) ?_
  refine V_aload_n (pc := 1107) C dL_law_1107 rfl 3 rfl ?_
  refine V_iload_n (pc := 1108) C dL_law_1108 rfl 0 rfl ?_
  refine V_iconst (pc := 1109) C dL_law_1109 ?_
  refine V_iadd (pc := 1110) C dL_law_1110 ?_
  refine V_sld (pc := 1111) X C dL_law_1111 (by omega) (by omega) ?_
  refine V_aload_n (pc := 1112) C dL_law_1112 rfl 3 rfl ?_
  refine V_iload_n (pc := 1113) C dL_law_1113 rfl 0 rfl ?_
  refine V_iconst (pc := 1114) C dL_law_1114 ?_
  refine V_iadd (pc := 1115) C dL_law_1115 ?_
  refine V_sld (pc := 1116) X C dL_law_1116 (by omega) (by omega) ?_
  refine V_aload_n (pc := 1117) C dL_law_1117 rfl 3 rfl ?_
  refine V_iload_n (pc := 1118) C dL_law_1118 rfl 0 rfl ?_
  refine V_iconst (pc := 1119) C dL_law_1119 ?_
  refine V_iadd (pc := 1120) C dL_law_1120 ?_
  refine V_sld (pc := 1121) X C dL_law_1121 (by omega) (by omega) ?_
  refine cv_L_132 (pc := 1122) (rest := [.int (iI (pWhen ((g 6) 6) ((g 6) 7) (G 5 0) (G 6 4) (xz xs (i + 1)) (xz xs (i + 2)) (xz xs (i + 3)) (xz xs (i + 4))))]) (wn := fun _ => lawW d b a sl rw (up g 9 (up (g 9) 0 0)) G) (sn := fun _ => [.int (iI (pWhen ((g 9) 4) ((g 9) 5) (G 9 6) (G 9 8) (xz xs (i + 1)) (xz xs (i + 2)) (xz xs (i + 3)) (xz xs (i + 4)))), .int (iI (pWhen ((g 6) 6) ((g 6) 7) (G 5 0) (G 6 4) (xz xs (i + 1)) (xz xs (i + 2)) (xz xs (i + 3)) (xz xs (i + 4))))]) C dL_law_1122 (c_X9_when l D d (b 9) (a 9) (g 9) (G 9 6) (G 9 8) (xz xs (i + 1)) (xz xs (i + 2)) (xz xs (i + 3)) (xz xs (i + 4)) (by rw [← j3.1.1]; exact j3.1.2.2.1) (by rw [← j3.1.2.1]; exact j3.1.2.2.2) j4.2.1.2.1 j3.2.2.1.2.1 (xz_sm xs _) (xz_sm xs _) (xz_sm xs _) (xz_sm xs _)) [63, 65, 67] rfl rfl 63 rfl rfl rfl (Nat.le_of_ble_eq_true rfl) ⟨Nat.le_of_ble_eq_true rfl, Nat.le_of_ble_eq_true rfl⟩ ⟨Nat.le_of_ble_eq_true rfl, Nat.le_of_ble_eq_true rfl⟩ (fun _ => rfl) (fun _ => by simp only [lawW, wput, List.zip_cons_cons, List.zip_nil_right, List.foldl_cons, List.foldl_nil, List.set_cons_succ, List.set_cons_zero, up, reduceIte, Nat.reduceEqDiff, Nat.reduceSub]) (fun _ => rfl) ?_
  intro _ _
  exact V_icmp_same (pc := 1125) 1337 C dL_law_1125 (by decide) (e_when j3 j4) (kk a (up g 9 (up (g 9) 0 0)) G ⟨j1, j2, j3, j4, j5, j5', j6, j7, j8, j10⟩)
set_option maxRecDepth 100000 in
set_option maxHeartbeats 4000000 in
theorem law_held {p : Program} {l : Launch} {e : Env} {s : State} {m : MethodId} {args : Array Value} {below : List Frame} {meth : Method} {c : Code} {A : Nat → Prop} {D : va_G} {d : Nat → ClassId} {Q : State → Prop} {bs L : Nat} {xs : Nat → Int32} {b : Nat → Nat} {a : Nat → Nat → Nat} {sl rw : Nat → Option Nat} {g : Nat → Nat → Int} {G : Nat → Nat → Int → Int} {i : Int} (C : CX p s m args c D d cL_law 4 RL) (X : SX s A bs L xs) (hi : 0 ≤ i ∧ i + 5 < L) (hJ : JJ b a sl rw g G)
    (kk : ∀ (a' : Nat → Nat → Nat) (g' : Nat → Nat → Int) (G' : Nat → Nat → Int → Int), JJ b a' sl rw g' G' → V p l e room_1 s m args below meth c A D Q 4 98 19494 (lawW d b a' sl rw g' G') [(3, .int (iI i)), (2, .ref (b 9)), (1, .ref (b 8)), (0, .ref bs)] 1337 []) : V p l e room_1 s m args below meth c A D Q 4 98 19494 (lawW d b a sl rw g G) [(3, .int (iI i)), (2, .ref (b 9)), (1, .ref (b 8)), (0, .ref bs)] 1130 [] := by
  obtain ⟨j1, j2, j3, j4, j5, j5', j6, j7, j8, j10⟩ := hJ
  refine V_aload_n (pc := 1130) C dL_law_1130 rfl 2 rfl ?_
  refine V_aload_n (pc := 1131) C dL_law_1131 rfl 3 rfl ?_
  refine V_iload_n (pc := 1132) C dL_law_1132 rfl 0 rfl ?_
  refine V_iconst (pc := 1133) C dL_law_1133 ?_
  refine V_iadd (pc := 1134) C dL_law_1134 ?_
  refine V_sld (pc := 1135) X C dL_law_1135 (by omega) (by omega) ?_
  refine V_aload_n (pc := 1136) C dL_law_1136 rfl 3 rfl ?_
  refine V_iload_n (pc := 1137) C dL_law_1137 rfl 0 rfl ?_
  refine V_iconst (pc := 1138) C dL_law_1138 ?_
  refine V_iadd (pc := 1139) C dL_law_1139 ?_
  refine V_sld (pc := 1140) X C dL_law_1140 (by omega) (by omega) ?_
  refine V_aload_n (pc := 1141) C dL_law_1141 rfl 3 rfl ?_
  refine V_iload_n (pc := 1142) C dL_law_1142 rfl 0 rfl ?_
  refine V_iconst (pc := 1143) C dL_law_1143 ?_
  refine V_iadd (pc := 1144) C dL_law_1144 ?_
  refine V_sld (pc := 1145) X C dL_law_1145 (by omega) (by omega) ?_
  refine V_aload_n (pc := 1146) C dL_law_1146 rfl 3 rfl ?_
  refine V_iload_n (pc := 1147) C dL_law_1147 rfl 0 rfl ?_
  refine V_iconst (pc := 1148) C dL_law_1148 ?_
  refine V_iadd (pc := 1149) C dL_law_1149 ?_
  refine V_sld (pc := 1150) X C dL_law_1150 (by omega) (by omega) ?_
  refine V_aload_n (pc := 1151) C dL_law_1151 rfl 3 rfl ?_
  refine V_iload_n (pc := 1152) C dL_law_1152 rfl 0 rfl ?_
  refine V_iconst (pc := 1153) C dL_law_1153 ?_
  refine V_iadd (pc := 1154) C dL_law_1154 ?_
  refine V_sld (pc := 1155) X C dL_law_1155 (by omega) (by omega) ?_
  refine cv_L_133 (pc := 1156) (rest := []) (wn := fun u9 => lawW d b a sl rw (up g 1 (up (g 1) 2 u9.2.1)) (up G 1 (up (G 1) 0 u9.2.2))) (sn := fun u9 => [.int (iI (u9.1))]) C dL_law_1156 (c_X8_held l D d (b 8) (a 8) (g 8) (a 1) (g 1) (G 1 0) (xz xs (i + 1)) (xz xs (i + 2)) (xz xs (i + 3)) (xz xs (i + 4)) (xz xs (i + 5)) j7.2.1.1 j7.1.2 (xz_sm xs _) (xz_sm xs _) (xz_sm xs _) (xz_sm xs _) (xz_sm xs _)) [0, 60, 61] rfl rfl 0 rfl rfl rfl (Nat.le_of_ble_eq_true rfl) ⟨Nat.le_of_ble_eq_true rfl, Nat.le_of_ble_eq_true rfl⟩ ⟨Nat.le_of_ble_eq_true rfl, Nat.le_of_ble_eq_true rfl⟩ (fun u9 => rfl) (fun u9 => by simp only [lawW, wput, List.zip_cons_cons, List.zip_nil_right, List.foldl_cons, List.foldl_nil, List.set_cons_succ, List.set_cons_zero, up, reduceIte, Nat.reduceEqDiff, Nat.reduceSub]) (fun u9 => rfl) ?_
  rintro u hu
  refine V_aload_n (pc := 1159) C dL_law_1159 rfl 1 rfl ?_
  refine V_aload_n (pc := 1160) C dL_law_1160 rfl 3 rfl ?_
  refine V_iload_n (pc := 1161) C dL_law_1161 rfl 0 rfl ?_
  refine V_iconst (pc := 1162) C dL_law_1162 ?_
  refine V_iadd (pc := 1163) C dL_law_1163 ?_
  refine V_sld (pc := 1164) X C dL_law_1164 (by omega) (by omega) ?_
  refine V_aload_n (pc := 1165) C dL_law_1165 rfl 3 rfl ?_
  refine V_iload_n (pc := 1166) C dL_law_1166 rfl 0 rfl ?_
  refine V_iconst (pc := 1167) C dL_law_1167 ?_
  refine V_iadd (pc := 1168) C dL_law_1168 ?_
  refine V_sld (pc := 1169) X C dL_law_1169 (by omega) (by omega) ?_
  refine V_aload_n (pc := 1170) C dL_law_1170 rfl 3 rfl ?_
  refine V_iload_n (pc := 1171) C dL_law_1171 rfl 0 rfl ?_
  refine V_iconst (pc := 1172) C dL_law_1172 ?_
  refine V_iadd (pc := 1173) C dL_law_1173 ?_
  refine V_sld (pc := 1174) X C dL_law_1174 (by omega) (by omega) ?_
  refine V_aload_n (pc := 1175) C dL_law_1175 rfl 3 rfl ?_
  refine V_iload_n (pc := 1176) C dL_law_1176 rfl 0 rfl ?_
  refine V_iconst (pc := 1177) C dL_law_1177 ?_
  refine V_iadd (pc := 1178) C dL_law_1178 ?_
  refine V_sld (pc := 1179) X C dL_law_1179 (by omega) (by omega) ?_
  refine V_aload_n (pc := 1180) C dL_law_1180 rfl 3 rfl ?_
  refine V_iload_n (pc := 1181) C dL_law_1181 rfl 0 rfl ?_
  refine V_iconst (pc := 1182) C dL_law_1182 ?_
  refine V_iadd (pc := 1183) C dL_law_1183 ?_
  refine V_sld (pc := 1184) X C dL_law_1184 (by omega) (by omega) ?_
  refine cv_L_136 (pc := 1185) (rest := [.int (iI (u.1))]) (wn := fun u9 => lawW d b a sl rw (up (up g 1 (up (g 1) 2 u.2.1)) 9 (up (up (g 9) 0 0) 32 u9.2.1)) (up (up G 1 (up (G 1) 0 u.2.2)) 9 (up (up (up (up (up (G 9) 33 u9.2.2.1) 34 u9.2.2.2.1) 35 u9.2.2.2.2.1) 36 u9.2.2.2.2.2.1) 37 u9.2.2.2.2.2.2))) (sn := fun u9 => [.int (iI (u9.1)), .int (iI (u.1))]) C dL_law_1185 (c_X9_held l D d (b 9) (a 9) (g 9) (G 9 33) (G 9 34) (G 9 35) (G 9 36) (G 9 37) (xz xs (i + 1)) (xz xs (i + 2)) (xz xs (i + 3)) (xz xs (i + 4)) (xz xs (i + 5)) (by rw [← j7.1.1]; exact j7.1.2) (xz_sm xs _) (xz_sm xs _) (xz_sm xs _) (xz_sm xs _) (xz_sm xs _)) [63, 86, 87, 88, 89, 90] rfl rfl 63 rfl rfl rfl (Nat.le_of_ble_eq_true rfl) ⟨Nat.le_of_ble_eq_true rfl, Nat.le_of_ble_eq_true rfl⟩ ⟨Nat.le_of_ble_eq_true rfl, Nat.le_of_ble_eq_true rfl⟩ (fun u9 => rfl) (fun u9 => by simp only [lawW, wput, List.zip_cons_cons, List.zip_nil_right, List.foldl_cons, List.foldl_nil, List.set_cons_succ, List.set_cons_zero, up, reduceIte, Nat.reduceEqDiff, Nat.reduceSub]) (fun u9 => rfl) ?_
  rintro v hv
  have key := s_held j7 hu hv
  exact V_icmp_same (pc := 1188) 1337 C dL_law_1188 (by decide) (key.1) (kk a (up (up g 1 (up (g 1) 2 u.2.1)) 9 (up (up (g 9) 0 0) 32 v.2.1)) (up (up G 1 (up (G 1) 0 u.2.2)) 9 (up (up (up (up (up (G 9) 33 v.2.2.1) 34 v.2.2.2.1) 35 v.2.2.2.2.1) 36 v.2.2.2.2.2.1) 37 v.2.2.2.2.2.2)) ⟨j1, j2, j3, j4, j5, j5', j6, key.2, j8, j10⟩)
set_option maxRecDepth 100000 in
set_option maxHeartbeats 4000000 in
theorem law_unheld {p : Program} {l : Launch} {e : Env} {s : State} {m : MethodId} {args : Array Value} {below : List Frame} {meth : Method} {c : Code} {A : Nat → Prop} {D : va_G} {d : Nat → ClassId} {Q : State → Prop} {bs L : Nat} {xs : Nat → Int32} {b : Nat → Nat} {a : Nat → Nat → Nat} {sl rw : Nat → Option Nat} {g : Nat → Nat → Int} {G : Nat → Nat → Int → Int} {i : Int} (C : CX p s m args c D d cL_law 4 RL) (X : SX s A bs L xs) (hi : 0 ≤ i ∧ i + 5 < L) (hJ : JJ b a sl rw g G)
    (kk : ∀ (a' : Nat → Nat → Nat) (g' : Nat → Nat → Int) (G' : Nat → Nat → Int → Int), JJ b a' sl rw g' G' → V p l e room_1 s m args below meth c A D Q 4 98 19494 (lawW d b a' sl rw g' G') [(3, .int (iI i)), (2, .ref (b 9)), (1, .ref (b 8)), (0, .ref bs)] 1337 []) : V p l e room_1 s m args below meth c A D Q 4 98 19494 (lawW d b a sl rw g G) [(3, .int (iI i)), (2, .ref (b 9)), (1, .ref (b 8)), (0, .ref bs)] 1193 [] := by
  obtain ⟨j1, j2, j3, j4, j5, j5', j6, j7, j8, j10⟩ := hJ
  refine V_aload_n (pc := 1193) C dL_law_1193 rfl 2 rfl ?_
  refine cv_L_137 (pc := 1194) (rest := []) (wn := fun _ => lawW d b a sl rw (up g 1 (up (g 1) 2 0)) (up G 1 (up (G 1) 0 (cpI (fun _ => 0) (G 1 0) 60)))) (sn := fun _ => [.int (iI ((g 1) 2))]) C dL_law_1194 (c_X8_unheld l D d (b 8) (a 8) (g 8) (a 1) (g 1) (G 1 0) ) [0, 60, 61] rfl rfl 0 rfl rfl rfl (Nat.le_of_ble_eq_true rfl) ⟨Nat.le_of_ble_eq_true rfl, Nat.le_of_ble_eq_true rfl⟩ ⟨Nat.le_of_ble_eq_true rfl, Nat.le_of_ble_eq_true rfl⟩ (fun _ => rfl) (fun _ => by simp only [lawW, wput, List.zip_cons_cons, List.zip_nil_right, List.foldl_cons, List.foldl_nil, List.set_cons_succ, List.set_cons_zero, up, reduceIte, Nat.reduceEqDiff, Nat.reduceSub]) (fun _ => rfl) ?_
  intro _ _
  refine V_aload_n (pc := 1197) C dL_law_1197 rfl 1 rfl ?_
  refine cv_L_140 (pc := 1198) (rest := [.int (iI ((g 1) 2))]) (wn := fun _ => lawW d b a sl rw (up (up g 1 (up (g 1) 2 0)) 9 (up (up (g 9) 0 0) 32 0)) (up G 1 (up (G 1) 0 (cpI (fun _ => 0) (G 1 0) 60)))) (sn := fun _ => [.int (iI ((g 9) 32)), .int (iI ((g 1) 2))]) C dL_law_1198 (c_X9_unheld l D d (b 9) (a 9) (g 9) ) [63] rfl rfl 63 rfl rfl rfl (Nat.le_of_ble_eq_true rfl) ⟨Nat.le_of_ble_eq_true rfl, Nat.le_of_ble_eq_true rfl⟩ ⟨Nat.le_of_ble_eq_true rfl, Nat.le_of_ble_eq_true rfl⟩ (fun _ => rfl) (fun _ => by simp only [lawW, wput, List.zip_cons_cons, List.zip_nil_right, List.foldl_cons, List.foldl_nil, List.set_cons_succ, List.set_cons_zero, up, reduceIte, Nat.reduceEqDiff, Nat.reduceSub]) (fun _ => rfl) ?_
  intro _ _
  exact V_icmp_same (pc := 1201) 1337 C dL_law_1201 (by decide) (j7.1.1) (kk a (up (up g 1 (up (g 1) 2 0)) 9 (up (up (g 9) 0 0) 32 0)) (up G 1 (up (G 1) 0 (cpI (fun _ => 0) (G 1 0) 60))) ⟨j1, j2, j3, j4, j5, j5', j6, s_unheld j7, j8, j10⟩)
set_option maxRecDepth 100000 in
set_option maxHeartbeats 4000000 in
theorem law_mayBe {p : Program} {l : Launch} {e : Env} {s : State} {m : MethodId} {args : Array Value} {below : List Frame} {meth : Method} {c : Code} {A : Nat → Prop} {D : va_G} {d : Nat → ClassId} {Q : State → Prop} {bs L : Nat} {xs : Nat → Int32} {b : Nat → Nat} {a : Nat → Nat → Nat} {sl rw : Nat → Option Nat} {g : Nat → Nat → Int} {G : Nat → Nat → Int → Int} {i : Int} (C : CX p s m args c D d cL_law 4 RL) (X : SX s A bs L xs) (hi : 0 ≤ i ∧ i + 5 < L) (hJ : JJ b a sl rw g G)
    (kk : ∀ (a' : Nat → Nat → Nat) (g' : Nat → Nat → Int) (G' : Nat → Nat → Int → Int), JJ b a' sl rw g' G' → V p l e room_1 s m args below meth c A D Q 4 98 19494 (lawW d b a' sl rw g' G') [(3, .int (iI i)), (2, .ref (b 9)), (1, .ref (b 8)), (0, .ref bs)] 1337 []) : V p l e room_1 s m args below meth c A D Q 4 98 19494 (lawW d b a sl rw g G) [(3, .int (iI i)), (2, .ref (b 9)), (1, .ref (b 8)), (0, .ref bs)] 1206 [] := by
  obtain ⟨j1, j2, j3, j4, j5, j5', j6, j7, j8, j10⟩ := hJ
  refine V_aload_n (pc := 1206) C dL_law_1206 rfl 2 rfl ?_
  refine cv_L_141 (pc := 1207) (rest := []) (wn := fun u9 => lawW d b a sl rw (up g 1 (up (g 1) 3 (rowsC (G 1 0)))) (up G 1 (up (G 1) 1 u9))) (sn := fun u9 => [.int (iI (rowsC (G 1 0)))]) C dL_law_1207 (c_X8_mayBe l D d (b 8) (a 8) (g 8) (a 1) (g 1) (G 1 0) (G 1 1) j7.2.1.1 j7.2.1.2) [0, 60, 61, 62] rfl rfl 0 rfl rfl rfl (Nat.le_of_ble_eq_true rfl) ⟨Nat.le_of_ble_eq_true rfl, Nat.le_of_ble_eq_true rfl⟩ ⟨Nat.le_of_ble_eq_true rfl, Nat.le_of_ble_eq_true rfl⟩ (fun u9 => rfl) (fun u9 => by simp only [lawW, wput, List.zip_cons_cons, List.zip_nil_right, List.foldl_cons, List.foldl_nil, List.set_cons_succ, List.set_cons_zero, up, reduceIte, Nat.reduceEqDiff, Nat.reduceSub]) (fun u9 => rfl) ?_
  rintro u hu
  refine V_aload_n (pc := 1210) C dL_law_1210 rfl 1 rfl ?_
  refine cv_L_144 (pc := 1211) (rest := [.int (iI (rowsC (G 1 0)))]) (wn := fun u9 => lawW d b a sl rw (up (up g 1 (up (g 1) 3 (rowsC (G 1 0)))) 9 (up (up (up (g 9) 0 0) 48 u9.2.1) 49 u9.2.2)) (up G 1 (up (G 1) 1 u))) (sn := fun u9 => [.int (iI (u9.1)), .int (iI (rowsC (G 1 0)))]) C dL_law_1211 (c_X9_mayBe l D d (b 9) (a 9) (g 9) (G 9 33) (G 9 34) (G 9 35) (G 9 36) (G 9 37) j7.2.2.1.1 j7.2.2.1.2.1 j7.2.2.1.2.2.1 j7.2.2.1.2.2.2.1 j7.2.2.1.2.2.2.2 (by rw [← j7.1.1]; exact j7.1.2)) [63, 86, 87, 88, 89, 90] rfl rfl 63 rfl rfl rfl (Nat.le_of_ble_eq_true rfl) ⟨Nat.le_of_ble_eq_true rfl, Nat.le_of_ble_eq_true rfl⟩ ⟨Nat.le_of_ble_eq_true rfl, Nat.le_of_ble_eq_true rfl⟩ (fun u9 => rfl) (fun u9 => by simp only [lawW, wput, List.zip_cons_cons, List.zip_nil_right, List.foldl_cons, List.foldl_nil, List.set_cons_succ, List.set_cons_zero, up, reduceIte, Nat.reduceEqDiff, Nat.reduceSub]) (fun u9 => rfl) ?_
  rintro v hv
  exact V_icmp_same (pc := 1214) 1337 C dL_law_1214 (by decide) ((e_mayBe j7).trans hv.symm) (kk a (up (up g 1 (up (g 1) 3 (rowsC (G 1 0)))) 9 (up (up (up (g 9) 0 0) 48 v.2.1) 49 v.2.2)) (up G 1 (up (G 1) 1 u)) ⟨j1, j2, j3, j4, j5, j5', j6, s_L j7 hu, j8, j10⟩)
set_option maxRecDepth 100000 in
set_option maxHeartbeats 4000000 in
theorem law_arm {p : Program} {l : Launch} {e : Env} {s : State} {m : MethodId} {args : Array Value} {below : List Frame} {meth : Method} {c : Code} {A : Nat → Prop} {D : va_G} {d : Nat → ClassId} {Q : State → Prop} {bs L : Nat} {xs : Nat → Int32} {b : Nat → Nat} {a : Nat → Nat → Nat} {sl rw : Nat → Option Nat} {g : Nat → Nat → Int} {G : Nat → Nat → Int → Int} {i : Int} (C : CX p s m args c D d cL_law 4 RL) (X : SX s A bs L xs) (hi : 0 ≤ i ∧ i + 5 < L) (hJ : JJ b a sl rw g G)
    (kk : ∀ (a' : Nat → Nat → Nat) (g' : Nat → Nat → Int) (G' : Nat → Nat → Int → Int), JJ b a' sl rw g' G' → V p l e room_1 s m args below meth c A D Q 4 98 19494 (lawW d b a' sl rw g' G') [(3, .int (iI i)), (2, .ref (b 9)), (1, .ref (b 8)), (0, .ref bs)] 1337 []) : V p l e room_1 s m args below meth c A D Q 4 98 19494 (lawW d b a sl rw g G) [(3, .int (iI i)), (2, .ref (b 9)), (1, .ref (b 8)), (0, .ref bs)] 1219 [] := by
  obtain ⟨j1, j2, j3, j4, j5, j5', j6, j7, j8, j10⟩ := hJ
  refine V_aload_n (pc := 1219) C dL_law_1219 rfl 2 rfl ?_
  refine V_aload_n (pc := 1220) C dL_law_1220 rfl 3 rfl ?_
  refine V_iload_n (pc := 1221) C dL_law_1221 rfl 0 rfl ?_
  refine V_iconst (pc := 1222) C dL_law_1222 ?_
  refine V_iadd (pc := 1223) C dL_law_1223 ?_
  refine V_sld (pc := 1224) X C dL_law_1224 (by omega) (by omega) ?_
  refine V_aload_n (pc := 1225) C dL_law_1225 rfl 3 rfl ?_
  refine V_iload_n (pc := 1226) C dL_law_1226 rfl 0 rfl ?_
  refine V_iconst (pc := 1227) C dL_law_1227 ?_
  refine V_iadd (pc := 1228) C dL_law_1228 ?_
  refine V_sld (pc := 1229) X C dL_law_1229 (by omega) (by omega) ?_
  refine V_bool (pc := 1230) C (xz_sm xs _) dL_law_1230 dL_law_1233 dL_law_1234 dL_law_1237 (by decide) (by decide) (fun w1 hw1 => ?_)
  have h01 := bI_or hw1
  refine cv_L_145 (pc := 1238) (rest := []) (wn := fun u9 => lawW d b a sl rw (up g 1 (up (g 1) 3 u9.2.1)) (up G 1 (up (G 1) 1 u9.2.2))) (sn := fun u9 => [.int (iI (u9.1))]) C dL_law_1238 (c_X8_arm l D d (b 8) (a 8) (g 8) (a 1) (g 1) (G 1 0) (G 1 1) (xz xs (i + 1)) w1 j7.2.1.1 j7.2.1.2 (xz_sm xs _) h01) [0, 60, 61, 62] rfl rfl 0 rfl rfl rfl (Nat.le_of_ble_eq_true rfl) ⟨Nat.le_of_ble_eq_true rfl, Nat.le_of_ble_eq_true rfl⟩ ⟨Nat.le_of_ble_eq_true rfl, Nat.le_of_ble_eq_true rfl⟩ (fun u9 => rfl) (fun u9 => by simp only [lawW, wput, List.zip_cons_cons, List.zip_nil_right, List.foldl_cons, List.foldl_nil, List.set_cons_succ, List.set_cons_zero, up, reduceIte, Nat.reduceEqDiff, Nat.reduceSub]) (fun u9 => rfl) ?_
  rintro u hu
  refine V_aload_n (pc := 1241) C dL_law_1241 rfl 1 rfl ?_
  refine V_aload_n (pc := 1242) C dL_law_1242 rfl 3 rfl ?_
  refine V_iload_n (pc := 1243) C dL_law_1243 rfl 0 rfl ?_
  refine V_iconst (pc := 1244) C dL_law_1244 ?_
  refine V_iadd (pc := 1245) C dL_law_1245 ?_
  refine V_sld (pc := 1246) X C dL_law_1246 (by omega) (by omega) ?_
  refine V_aload_n (pc := 1247) C dL_law_1247 rfl 3 rfl ?_
  refine V_iload_n (pc := 1248) C dL_law_1248 rfl 0 rfl ?_
  refine V_iconst (pc := 1249) C dL_law_1249 ?_
  refine V_iadd (pc := 1250) C dL_law_1250 ?_
  refine V_sld (pc := 1251) X C dL_law_1251 (by omega) (by omega) ?_
  refine V_bool (pc := 1252) C (xz_sm xs _) dL_law_1252 dL_law_1255 dL_law_1256 dL_law_1259 (by decide) (by decide) (fun w2 hw2 => ?_)
  obtain rfl : w1 = w2 := hw1.trans hw2.symm
  refine cv_L_148 (pc := 1260) (rest := [.int (iI (u.1))]) (wn := fun u9 => lawW d b a sl rw (up (up g 1 (up (g 1) 3 u.2.1)) 9 (up (up (up (g 9) 0 0) 48 u9.2.1) 49 u9.2.2)) (up G 1 (up (G 1) 1 u.2.2))) (sn := fun u9 => [.int (iI (u9.1)), .int (iI (u.1))]) C dL_law_1260 (c_X9_arm l D d (b 9) (a 9) (g 9) (G 9 33) (G 9 34) (G 9 35) (G 9 36) (G 9 37) (xz xs (i + 1)) w1 j7.2.2.1.1 j7.2.2.1.2.1 j7.2.2.1.2.2.1 j7.2.2.1.2.2.2.1 j7.2.2.1.2.2.2.2 (by rw [← j7.1.1]; exact j7.1.2) (xz_sm xs _) h01) [63, 86, 87, 88, 89, 90] rfl rfl 63 rfl rfl rfl (Nat.le_of_ble_eq_true rfl) ⟨Nat.le_of_ble_eq_true rfl, Nat.le_of_ble_eq_true rfl⟩ ⟨Nat.le_of_ble_eq_true rfl, Nat.le_of_ble_eq_true rfl⟩ (fun u9 => rfl) (fun u9 => by simp only [lawW, wput, List.zip_cons_cons, List.zip_nil_right, List.foldl_cons, List.foldl_nil, List.set_cons_succ, List.set_cons_zero, up, reduceIte, Nat.reduceEqDiff, Nat.reduceSub]) (fun u9 => rfl) ?_
  rintro v hv
  exact V_icmp_same (pc := 1263) 1337 C dL_law_1263 (by decide) (e_arm h01 j7 hu.1 hv) (kk a (up (up g 1 (up (g 1) 3 u.2.1)) 9 (up (up (up (g 9) 0 0) 48 v.2.1) 49 v.2.2)) (up G 1 (up (G 1) 1 u.2.2)) ⟨j1, j2, j3, j4, j5, j5', j6, s_L j7 hu.2, j8, j10⟩)
set_option maxRecDepth 100000 in
set_option maxHeartbeats 4000000 in
theorem law_keep {p : Program} {l : Launch} {e : Env} {s : State} {m : MethodId} {args : Array Value} {below : List Frame} {meth : Method} {c : Code} {A : Nat → Prop} {D : va_G} {d : Nat → ClassId} {Q : State → Prop} {bs L : Nat} {xs : Nat → Int32} {b : Nat → Nat} {a : Nat → Nat → Nat} {sl rw : Nat → Option Nat} {g : Nat → Nat → Int} {G : Nat → Nat → Int → Int} {i : Int} (C : CX p s m args c D d cL_law 4 RL) (X : SX s A bs L xs) (hi : 0 ≤ i ∧ i + 5 < L) (hJ : JJ b a sl rw g G)
    (kk : ∀ (a' : Nat → Nat → Nat) (g' : Nat → Nat → Int) (G' : Nat → Nat → Int → Int), JJ b a' sl rw g' G' → V p l e room_1 s m args below meth c A D Q 4 98 19494 (lawW d b a' sl rw g' G') [(3, .int (iI i)), (2, .ref (b 9)), (1, .ref (b 8)), (0, .ref bs)] 1337 []) : V p l e room_1 s m args below meth c A D Q 4 98 19494 (lawW d b a sl rw g G) [(3, .int (iI i)), (2, .ref (b 9)), (1, .ref (b 8)), (0, .ref bs)] 1268 [] := by
  obtain ⟨j1, j2, j3, j4, j5, j5', j6, j7, j8, j10⟩ := hJ
  rcases (show xz xs (i + 1) = 0 ∨ xz xs (i + 1) = 1 ∨ ¬ (0 ≤ xz xs (i + 1) ∧ xz xs (i + 1) ≤ 1) by omega) with hk0 | hk0 | hbad
  · refine V_aload_n (pc := 1268) C dL_law_1268 rfl 2 rfl ?_
    refine V_aload_n (pc := 1269) C dL_law_1269 rfl 3 rfl ?_
    refine V_iload_n (pc := 1270) C dL_law_1270 rfl 0 rfl ?_
    refine V_iconst (pc := 1271) C dL_law_1271 ?_
    refine V_iadd (pc := 1272) C dL_law_1272 ?_
    refine V_sld (pc := 1273) X C dL_law_1273 (by omega) (by omega) ?_
    refine V_eqt (y := 0) hk0 ?_
    refine cv_L_149 (pc := 1274) (rest := []) (wn := fun _ => lawW d b a sl rw (up g 11 (up (up (up (g 11) 6 ((g 5) 6)) 7 ((g 5) 7)) 8 1)) (up G 11 (up (up (up (up (up (up (G 11) 0 (cpI (G 5 0) (G 11 0) 6)) 1 (cpI (G 5 1) (G 11 1) 4)) 2 (cpI (G 5 2) (G 11 2) 12)) 3 (cpI (G 5 3) (G 11 3) 12)) 4 (cpI (G 5 4) (G 11 4) 12)) 5 (cpI (G 5 5) (G 11 5) 12)))) (sn := fun _ => [.int (iI ((g 5) 6))]) C dL_law_1274 (c_X8_keep_ok l D d (b 8) (a 8) (g 8) (a 5) (g 5) (b 11) (a 11) (g 11) sl (G 11 0) (G 11 1) (G 11 2) (G 11 3) (G 11 4) (G 11 5) (G 5 0) (G 5 1) (G 5 2) (G 5 3) (G 5 4) (G 5 5) 0 (by decide) j10.1) [0, 25, 18, 19, 20, 21, 22, 23, 24, 26, 27, 28, 29, 30, 31, 32] rfl rfl 0 rfl rfl rfl (Nat.le_of_ble_eq_true rfl) ⟨Nat.le_of_ble_eq_true rfl, Nat.le_of_ble_eq_true rfl⟩ ⟨Nat.le_of_ble_eq_true rfl, Nat.le_of_ble_eq_true rfl⟩ (fun _ => rfl) (fun _ => by simp only [lawW, wput, List.zip_cons_cons, List.zip_nil_right, List.foldl_cons, List.foldl_nil, List.set_cons_succ, List.set_cons_zero, up, reduceIte, Nat.reduceEqDiff, Nat.reduceSub]) (fun _ => rfl) ?_
    intro _ _
    refine V_aload_n (pc := 1277) C dL_law_1277 rfl 1 rfl ?_
    refine V_aload_n (pc := 1278) C dL_law_1278 rfl 3 rfl ?_
    refine V_iload_n (pc := 1279) C dL_law_1279 rfl 0 rfl ?_
    refine V_iconst (pc := 1280) C dL_law_1280 ?_
    refine V_iadd (pc := 1281) C dL_law_1281 ?_
    refine V_sld (pc := 1282) X C dL_law_1282 (by omega) (by omega) ?_
    refine V_eqt (y := 0) hk0 ?_
    refine cv_L_152 (pc := 1283) (rest := [.int (iI ((g 5) 6))]) (wn := fun _ => lawW d b a sl rw (up (up g 11 (up (up (up (g 11) 6 ((g 5) 6)) 7 ((g 5) 7)) 8 1)) 9 (up (g 9) 0 0)) (up (up G 11 (up (up (up (up (up (up (G 11) 0 (cpI (G 5 0) (G 11 0) 6)) 1 (cpI (G 5 1) (G 11 1) 4)) 2 (cpI (G 5 2) (G 11 2) 12)) 3 (cpI (G 5 3) (G 11 3) 12)) 4 (cpI (G 5 4) (G 11 4) 12)) 5 (cpI (G 5 5) (G 11 5) 12))) 9 (up (up (G 9) 38 (uI (uI (cpO (G 9 25) (cpO (G 9 24) (cpO (fun j => 10 * (G 9 22) j + (G 9 23) j) (cpO (G 9 9) (cpO (G 9 6) (G 9 38) (60 * 0) 6) (60 * 0 + 6) 4) (60 * 0 + 10) 12) (60 * 0 + 22) 12) (60 * 0 + 34) 12) (60 * 0 + 46) ((g 9) 21)) (60 * 0 + 47) ((g 9) 13))) 39 (uI (G 9 39) 0 1)))) (sn := fun _ => [.int (iI ((g 9) 21)), .int (iI ((g 5) 6))]) C dL_law_1283 (c_X9_keep_ok l D d (b 9) (a 9) (g 9) (G 9 6) (G 9 9) (G 9 22) (G 9 23) (G 9 24) (G 9 25) (G 9 38) (G 9 39) 0 (by decide)) [63, 65, 68, 77, 78, 79, 80, 91, 92] rfl rfl 63 rfl rfl rfl (Nat.le_of_ble_eq_true rfl) ⟨Nat.le_of_ble_eq_true rfl, Nat.le_of_ble_eq_true rfl⟩ ⟨Nat.le_of_ble_eq_true rfl, Nat.le_of_ble_eq_true rfl⟩ (fun _ => rfl) (fun _ => by simp only [lawW, wput, List.zip_cons_cons, List.zip_nil_right, List.foldl_cons, List.foldl_nil, List.set_cons_succ, List.set_cons_zero, up, reduceIte, Nat.reduceEqDiff, Nat.reduceSub]) (fun _ => rfl) ?_
    intro _ _
    exact V_icmp_same (pc := 1286) 1337 C dL_law_1286 (by decide) (j4.1.1) (kk a (up (up g 11 (up (up (up (g 11) 6 ((g 5) 6)) 7 ((g 5) 7)) 8 1)) 9 (up (g 9) 0 0)) (up (up G 11 (up (up (up (up (up (up (G 11) 0 (cpI (G 5 0) (G 11 0) 6)) 1 (cpI (G 5 1) (G 11 1) 4)) 2 (cpI (G 5 2) (G 11 2) 12)) 3 (cpI (G 5 3) (G 11 3) 12)) 4 (cpI (G 5 4) (G 11 4) 12)) 5 (cpI (G 5 5) (G 11 5) 12))) 9 (up (up (G 9) 38 (uI (uI (cpO (G 9 25) (cpO (G 9 24) (cpO (fun j => 10 * (G 9 22) j + (G 9 23) j) (cpO (G 9 9) (cpO (G 9 6) (G 9 38) (60 * 0) 6) (60 * 0 + 6) 4) (60 * 0 + 10) 12) (60 * 0 + 22) 12) (60 * 0 + 34) 12) (60 * 0 + 46) ((g 9) 21)) (60 * 0 + 47) ((g 9) 13))) 39 (uI (G 9 39) 0 1))) ⟨j1, j2, j3, j4, keep_me j3.1.2.2.1 j3.1.2.2.2 j4 j5, keep_other (k := 0) (Or.inl ⟨rfl, rfl⟩) j3.1.2.2.1 j3.1.2.2.2 j5', j6, j7, ⟨j8.1, j8.2.1, j8.2.2.1, mK_bd j4.2.1.2.1 j4.2.2.1.2.1 (by rw [← j4.2.2.2.1.1]; exact j4.2.2.2.2.1.1) (by rw [← j4.2.2.2.1.2.1]; exact j4.2.2.2.2.1.2.1) (by rw [← j4.2.2.2.1.2.2.1]; exact j4.2.2.2.2.1.2.2.1) (by rw [← j4.2.2.2.1.2.2.2]; exact j4.2.2.2.2.1.2.2.2) j8.2.2.2.1 (by rw [← j4.1.1]; exact j4.1.2.2.1) (by rw [← j4.1.2.1]; exact j4.1.2.2.2), bd_u j8.2.2.2.2 (by decide)⟩, j10⟩)
  · refine V_aload_n (pc := 1268) C dL_law_1268 rfl 2 rfl ?_
    refine V_aload_n (pc := 1269) C dL_law_1269 rfl 3 rfl ?_
    refine V_iload_n (pc := 1270) C dL_law_1270 rfl 0 rfl ?_
    refine V_iconst (pc := 1271) C dL_law_1271 ?_
    refine V_iadd (pc := 1272) C dL_law_1272 ?_
    refine V_sld (pc := 1273) X C dL_law_1273 (by omega) (by omega) ?_
    refine V_eqt (y := 1) hk0 ?_
    refine cv_L_149 (pc := 1274) (rest := []) (wn := fun _ => lawW d b a sl rw (up g 12 (up (up (up (g 12) 6 ((g 5) 6)) 7 ((g 5) 7)) 8 1)) (up G 12 (up (up (up (up (up (up (G 12) 0 (cpI (G 5 0) (G 12 0) 6)) 1 (cpI (G 5 1) (G 12 1) 4)) 2 (cpI (G 5 2) (G 12 2) 12)) 3 (cpI (G 5 3) (G 12 3) 12)) 4 (cpI (G 5 4) (G 12 4) 12)) 5 (cpI (G 5 5) (G 12 5) 12)))) (sn := fun _ => [.int (iI ((g 5) 6))]) C dL_law_1274 (c_X8_keep_ok l D d (b 8) (a 8) (g 8) (a 5) (g 5) (b 12) (a 12) (g 12) sl (G 12 0) (G 12 1) (G 12 2) (G 12 3) (G 12 4) (G 12 5) (G 5 0) (G 5 1) (G 5 2) (G 5 3) (G 5 4) (G 5 5) 1 (by decide) j10.2.1) [0, 25, 18, 19, 20, 21, 22, 23, 24, 33, 34, 35, 36, 37, 38, 39] rfl rfl 0 rfl rfl rfl (Nat.le_of_ble_eq_true rfl) ⟨Nat.le_of_ble_eq_true rfl, Nat.le_of_ble_eq_true rfl⟩ ⟨Nat.le_of_ble_eq_true rfl, Nat.le_of_ble_eq_true rfl⟩ (fun _ => rfl) (fun _ => by simp only [lawW, wput, List.zip_cons_cons, List.zip_nil_right, List.foldl_cons, List.foldl_nil, List.set_cons_succ, List.set_cons_zero, up, reduceIte, Nat.reduceEqDiff, Nat.reduceSub]) (fun _ => rfl) ?_
    intro _ _
    refine V_aload_n (pc := 1277) C dL_law_1277 rfl 1 rfl ?_
    refine V_aload_n (pc := 1278) C dL_law_1278 rfl 3 rfl ?_
    refine V_iload_n (pc := 1279) C dL_law_1279 rfl 0 rfl ?_
    refine V_iconst (pc := 1280) C dL_law_1280 ?_
    refine V_iadd (pc := 1281) C dL_law_1281 ?_
    refine V_sld (pc := 1282) X C dL_law_1282 (by omega) (by omega) ?_
    refine V_eqt (y := 1) hk0 ?_
    refine cv_L_152 (pc := 1283) (rest := [.int (iI ((g 5) 6))]) (wn := fun _ => lawW d b a sl rw (up (up g 12 (up (up (up (g 12) 6 ((g 5) 6)) 7 ((g 5) 7)) 8 1)) 9 (up (g 9) 0 0)) (up (up G 12 (up (up (up (up (up (up (G 12) 0 (cpI (G 5 0) (G 12 0) 6)) 1 (cpI (G 5 1) (G 12 1) 4)) 2 (cpI (G 5 2) (G 12 2) 12)) 3 (cpI (G 5 3) (G 12 3) 12)) 4 (cpI (G 5 4) (G 12 4) 12)) 5 (cpI (G 5 5) (G 12 5) 12))) 9 (up (up (G 9) 38 (uI (uI (cpO (G 9 25) (cpO (G 9 24) (cpO (fun j => 10 * (G 9 22) j + (G 9 23) j) (cpO (G 9 9) (cpO (G 9 6) (G 9 38) (60 * 1) 6) (60 * 1 + 6) 4) (60 * 1 + 10) 12) (60 * 1 + 22) 12) (60 * 1 + 34) 12) (60 * 1 + 46) ((g 9) 21)) (60 * 1 + 47) ((g 9) 13))) 39 (uI (G 9 39) 1 1)))) (sn := fun _ => [.int (iI ((g 9) 21)), .int (iI ((g 5) 6))]) C dL_law_1283 (c_X9_keep_ok l D d (b 9) (a 9) (g 9) (G 9 6) (G 9 9) (G 9 22) (G 9 23) (G 9 24) (G 9 25) (G 9 38) (G 9 39) 1 (by decide)) [63, 65, 68, 77, 78, 79, 80, 91, 92] rfl rfl 63 rfl rfl rfl (Nat.le_of_ble_eq_true rfl) ⟨Nat.le_of_ble_eq_true rfl, Nat.le_of_ble_eq_true rfl⟩ ⟨Nat.le_of_ble_eq_true rfl, Nat.le_of_ble_eq_true rfl⟩ (fun _ => rfl) (fun _ => by simp only [lawW, wput, List.zip_cons_cons, List.zip_nil_right, List.foldl_cons, List.foldl_nil, List.set_cons_succ, List.set_cons_zero, up, reduceIte, Nat.reduceEqDiff, Nat.reduceSub]) (fun _ => rfl) ?_
    intro _ _
    exact V_icmp_same (pc := 1286) 1337 C dL_law_1286 (by decide) (j4.1.1) (kk a (up (up g 12 (up (up (up (g 12) 6 ((g 5) 6)) 7 ((g 5) 7)) 8 1)) 9 (up (g 9) 0 0)) (up (up G 12 (up (up (up (up (up (up (G 12) 0 (cpI (G 5 0) (G 12 0) 6)) 1 (cpI (G 5 1) (G 12 1) 4)) 2 (cpI (G 5 2) (G 12 2) 12)) 3 (cpI (G 5 3) (G 12 3) 12)) 4 (cpI (G 5 4) (G 12 4) 12)) 5 (cpI (G 5 5) (G 12 5) 12))) 9 (up (up (G 9) 38 (uI (uI (cpO (G 9 25) (cpO (G 9 24) (cpO (fun j => 10 * (G 9 22) j + (G 9 23) j) (cpO (G 9 9) (cpO (G 9 6) (G 9 38) (60 * 1) 6) (60 * 1 + 6) 4) (60 * 1 + 10) 12) (60 * 1 + 22) 12) (60 * 1 + 34) 12) (60 * 1 + 46) ((g 9) 21)) (60 * 1 + 47) ((g 9) 13))) 39 (uI (G 9 39) 1 1))) ⟨j1, j2, j3, j4, keep_other (k := 1) (Or.inr ⟨rfl, rfl⟩) j3.1.2.2.1 j3.1.2.2.2 j5, keep_me j3.1.2.2.1 j3.1.2.2.2 j4 j5', j6, j7, ⟨j8.1, j8.2.1, j8.2.2.1, mK_bd j4.2.1.2.1 j4.2.2.1.2.1 (by rw [← j4.2.2.2.1.1]; exact j4.2.2.2.2.1.1) (by rw [← j4.2.2.2.1.2.1]; exact j4.2.2.2.2.1.2.1) (by rw [← j4.2.2.2.1.2.2.1]; exact j4.2.2.2.2.1.2.2.1) (by rw [← j4.2.2.2.1.2.2.2]; exact j4.2.2.2.2.1.2.2.2) j8.2.2.2.1 (by rw [← j4.1.1]; exact j4.1.2.2.1) (by rw [← j4.1.2.1]; exact j4.1.2.2.2), bd_u j8.2.2.2.2 (by decide)⟩, j10⟩)
  · refine V_aload_n (pc := 1268) C dL_law_1268 rfl 2 rfl ?_
    refine V_aload_n (pc := 1269) C dL_law_1269 rfl 3 rfl ?_
    refine V_iload_n (pc := 1270) C dL_law_1270 rfl 0 rfl ?_
    refine V_iconst (pc := 1271) C dL_law_1271 ?_
    refine V_iadd (pc := 1272) C dL_law_1272 ?_
    refine V_sld (pc := 1273) X C dL_law_1273 (by omega) (by omega) ?_
    refine cv_L_149 (pc := 1274) (rest := []) (wn := fun _ => lawW d b a sl rw g G) (sn := fun _ => [.int (iI (-1))]) C dL_law_1274 (c_X8_keep_bad l D d (b 8) (a 8) (g 8) (xz xs (i + 1)) (xz_sm xs _) hbad) [0] rfl rfl 0 rfl rfl rfl (Nat.le_of_ble_eq_true rfl) ⟨Nat.le_of_ble_eq_true rfl, Nat.le_of_ble_eq_true rfl⟩ ⟨Nat.le_of_ble_eq_true rfl, Nat.le_of_ble_eq_true rfl⟩ (fun _ => rfl) (fun _ => by simp only [lawW, wput, List.zip_cons_cons, List.zip_nil_right, List.foldl_cons, List.foldl_nil, List.set_cons_succ, List.set_cons_zero, up, reduceIte, Nat.reduceEqDiff, Nat.reduceSub]) (fun _ => rfl) ?_
    intro _ _
    refine V_aload_n (pc := 1277) C dL_law_1277 rfl 1 rfl ?_
    refine V_aload_n (pc := 1278) C dL_law_1278 rfl 3 rfl ?_
    refine V_iload_n (pc := 1279) C dL_law_1279 rfl 0 rfl ?_
    refine V_iconst (pc := 1280) C dL_law_1280 ?_
    refine V_iadd (pc := 1281) C dL_law_1281 ?_
    refine V_sld (pc := 1282) X C dL_law_1282 (by omega) (by omega) ?_
    refine cv_L_152 (pc := 1283) (rest := [.int (iI (-1))]) (wn := fun _ => lawW d b a sl rw (up g 9 (up (g 9) 0 0)) G) (sn := fun _ => [.int (iI (-1)), .int (iI (-1))]) C dL_law_1283 (c_X9_keep_bad l D d (b 9) (a 9) (g 9) (xz xs (i + 1)) (xz_sm xs _) hbad) [63] rfl rfl 63 rfl rfl rfl (Nat.le_of_ble_eq_true rfl) ⟨Nat.le_of_ble_eq_true rfl, Nat.le_of_ble_eq_true rfl⟩ ⟨Nat.le_of_ble_eq_true rfl, Nat.le_of_ble_eq_true rfl⟩ (fun _ => rfl) (fun _ => by simp only [lawW, wput, List.zip_cons_cons, List.zip_nil_right, List.foldl_cons, List.foldl_nil, List.set_cons_succ, List.set_cons_zero, up, reduceIte, Nat.reduceEqDiff, Nat.reduceSub]) (fun _ => rfl) ?_
    intro _ _
    exact V_icmp_same (pc := 1286) 1337 C dL_law_1286 (by decide) (rfl) (kk a (up g 9 (up (g 9) 0 0)) G ⟨j1, j2, j3, j4, j5, j5', j6, j7, j8, j10⟩)
set_option maxRecDepth 100000 in
set_option maxHeartbeats 4000000 in
theorem law_again {p : Program} {l : Launch} {e : Env} {s : State} {m : MethodId} {args : Array Value} {below : List Frame} {meth : Method} {c : Code} {A : Nat → Prop} {D : va_G} {d : Nat → ClassId} {Q : State → Prop} {bs L : Nat} {xs : Nat → Int32} {b : Nat → Nat} {a : Nat → Nat → Nat} {sl rw : Nat → Option Nat} {g : Nat → Nat → Int} {G : Nat → Nat → Int → Int} {i : Int} (C : CX p s m args c D d cL_law 4 RL) (X : SX s A bs L xs) (hi : 0 ≤ i ∧ i + 5 < L) (hJ : JJ b a sl rw g G)
    (kk : ∀ (a' : Nat → Nat → Nat) (g' : Nat → Nat → Int) (G' : Nat → Nat → Int → Int), JJ b a' sl rw g' G' → V p l e room_1 s m args below meth c A D Q 4 98 19494 (lawW d b a' sl rw g' G') [(3, .int (iI i)), (2, .ref (b 9)), (1, .ref (b 8)), (0, .ref bs)] 1337 []) : V p l e room_1 s m args below meth c A D Q 4 98 19494 (lawW d b a sl rw g G) [(3, .int (iI i)), (2, .ref (b 9)), (1, .ref (b 8)), (0, .ref bs)] 1291 [] := by
  obtain ⟨j1, j2, j3, j4, j5, j5', j6, j7, j8, j10⟩ := hJ
  rcases (show xz xs (i + 1) = 0 ∨ xz xs (i + 1) = 1 ∨ ¬ (0 ≤ xz xs (i + 1) ∧ xz xs (i + 1) ≤ 1) by omega) with hk0 | hk0 | hbad
  · rcases j5.1.2 with h8 | h8
    · refine V_aload_n (pc := 1291) C dL_law_1291 rfl 2 rfl ?_
      refine V_aload_n (pc := 1292) C dL_law_1292 rfl 3 rfl ?_
      refine V_iload_n (pc := 1293) C dL_law_1293 rfl 0 rfl ?_
      refine V_iconst (pc := 1294) C dL_law_1294 ?_
      refine V_iadd (pc := 1295) C dL_law_1295 ?_
      refine V_sld (pc := 1296) X C dL_law_1296 (by omega) (by omega) ?_
      refine V_eqt (y := 0) hk0 ?_
      refine cv_L_153 (pc := 1297) (rest := []) (wn := fun _ => lawW d b a sl rw g G) (sn := fun _ => [.int (iI (-3))]) C dL_law_1297 (c_X8_again_no l D d (b 8) (a 8) (g 8) (b 11) (a 11) (g 11) sl 0 (by decide) j10.1 h8) [0, 25, 26] rfl rfl 0 rfl rfl rfl (Nat.le_of_ble_eq_true rfl) ⟨Nat.le_of_ble_eq_true rfl, Nat.le_of_ble_eq_true rfl⟩ ⟨Nat.le_of_ble_eq_true rfl, Nat.le_of_ble_eq_true rfl⟩ (fun _ => rfl) (fun _ => by simp only [lawW, wput, List.zip_cons_cons, List.zip_nil_right, List.foldl_cons, List.foldl_nil, List.set_cons_succ, List.set_cons_zero, up, reduceIte, Nat.reduceEqDiff, Nat.reduceSub]) (fun _ => rfl) ?_
      intro _ _
      refine V_aload_n (pc := 1300) C dL_law_1300 rfl 1 rfl ?_
      refine V_aload_n (pc := 1301) C dL_law_1301 rfl 3 rfl ?_
      refine V_iload_n (pc := 1302) C dL_law_1302 rfl 0 rfl ?_
      refine V_iconst (pc := 1303) C dL_law_1303 ?_
      refine V_iadd (pc := 1304) C dL_law_1304 ?_
      refine V_sld (pc := 1305) X C dL_law_1305 (by omega) (by omega) ?_
      refine V_eqt (y := 0) hk0 ?_
      refine cv_L_156 (pc := 1306) (rest := [.int (iI (-3))]) (wn := fun _ => lawW d b a sl rw (up g 9 (up (g 9) 0 0)) G) (sn := fun _ => [.int (iI (-3)), .int (iI (-3))]) C dL_law_1306 (c_X9_again_no l D d (b 9) (a 9) (g 9) (G 9 39) 0 (by decide) (j5.1.1.symm.trans h8)) [63, 92] rfl rfl 63 rfl rfl rfl (Nat.le_of_ble_eq_true rfl) ⟨Nat.le_of_ble_eq_true rfl, Nat.le_of_ble_eq_true rfl⟩ ⟨Nat.le_of_ble_eq_true rfl, Nat.le_of_ble_eq_true rfl⟩ (fun _ => rfl) (fun _ => by simp only [lawW, wput, List.zip_cons_cons, List.zip_nil_right, List.foldl_cons, List.foldl_nil, List.set_cons_succ, List.set_cons_zero, up, reduceIte, Nat.reduceEqDiff, Nat.reduceSub]) (fun _ => rfl) ?_
      intro _ _
      exact V_icmp_same (pc := 1309) 1337 C dL_law_1309 (by decide) (rfl) (kk a (up g 9 (up (g 9) 0 0)) G ⟨j1, j2, j3, j4, j5, j5', j6, j7, j8, j10⟩)
    · refine V_aload_n (pc := 1291) C dL_law_1291 rfl 2 rfl ?_
      refine V_aload_n (pc := 1292) C dL_law_1292 rfl 3 rfl ?_
      refine V_iload_n (pc := 1293) C dL_law_1293 rfl 0 rfl ?_
      refine V_iconst (pc := 1294) C dL_law_1294 ?_
      refine V_iadd (pc := 1295) C dL_law_1295 ?_
      refine V_sld (pc := 1296) X C dL_law_1296 (by omega) (by omega) ?_
      refine V_eqt (y := 0) hk0 ?_
      refine cv_L_153 (pc := 1297) (rest := []) (wn := fun _ => lawW d b a sl rw (up g 5 (up (up (g 5) 6 ((g 11) 6)) 7 ((g 11) 7))) (up G 5 (up (up (up (up (up (up (G 5) 0 (cpI (G 11 0) (G 5 0) 6)) 1 (cpI (G 11 1) (G 5 1) 4)) 2 (cpI (G 11 2) (G 5 2) 12)) 3 (cpI (G 11 3) (G 5 3) 12)) 4 (cpI (G 11 4) (G 5 4) 12)) 5 (cpI (G 11 5) (G 5 5) 12)))) (sn := fun _ => [.int (iI ((g 11) 6))]) C dL_law_1297 (c_X8_again_ok l D d (b 8) (a 8) (g 8) (a 5) (g 5) (b 11) (a 11) (g 11) sl (G 11 0) (G 11 1) (G 11 2) (G 11 3) (G 11 4) (G 11 5) (G 5 0) (G 5 1) (G 5 2) (G 5 3) (G 5 4) (G 5 5) 0 (by decide) j10.1 h8) [0, 25, 18, 19, 20, 21, 22, 23, 24, 26, 27, 28, 29, 30, 31, 32] rfl rfl 0 rfl rfl rfl (Nat.le_of_ble_eq_true rfl) ⟨Nat.le_of_ble_eq_true rfl, Nat.le_of_ble_eq_true rfl⟩ ⟨Nat.le_of_ble_eq_true rfl, Nat.le_of_ble_eq_true rfl⟩ (fun _ => rfl) (fun _ => by simp only [lawW, wput, List.zip_cons_cons, List.zip_nil_right, List.foldl_cons, List.foldl_nil, List.set_cons_succ, List.set_cons_zero, up, reduceIte, Nat.reduceEqDiff, Nat.reduceSub]) (fun _ => rfl) ?_
      intro _ _
      refine V_aload_n (pc := 1300) C dL_law_1300 rfl 1 rfl ?_
      refine V_aload_n (pc := 1301) C dL_law_1301 rfl 3 rfl ?_
      refine V_iload_n (pc := 1302) C dL_law_1302 rfl 0 rfl ?_
      refine V_iconst (pc := 1303) C dL_law_1303 ?_
      refine V_iadd (pc := 1304) C dL_law_1304 ?_
      refine V_sld (pc := 1305) X C dL_law_1305 (by omega) (by omega) ?_
      refine V_eqt (y := 0) hk0 ?_
      refine cv_L_156 (pc := 1306) (rest := [.int (iI ((g 11) 6))]) (wn := fun _ => lawW d b a sl rw (up (up g 5 (up (up (g 5) 6 ((g 11) 6)) 7 ((g 11) 7))) 9 (up (up (up (g 9) 0 0) 21 ((G 9 38) (60 * 0 + 46))) 13 ((G 9 38) (60 * 0 + 47)))) (up (up G 5 (up (up (up (up (up (up (G 5) 0 (cpI (G 11 0) (G 5 0) 6)) 1 (cpI (G 11 1) (G 5 1) 4)) 2 (cpI (G 11 2) (G 5 2) 12)) 3 (cpI (G 11 3) (G 5 3) 12)) 4 (cpI (G 11 4) (G 5 4) 12)) 5 (cpI (G 11 5) (G 5 5) 12))) 9 (up (up (up (up (up (up (G 9) 6 (cpI (fun j => (G 9 38) (60 * 0 + j)) (G 9 6) 6)) 9 (cpI (fun j => (G 9 38) (60 * 0 + 6 + j)) (G 9 9) 4)) 22 (cpI (fun j => (G 9 38) (60 * 0 + 10 + j) / 10) (G 9 22) 12)) 23 (cpI (fun j => (G 9 38) (60 * 0 + 10 + j) % 10) (G 9 23) 12)) 24 (cpI (fun j => (G 9 38) (60 * 0 + 22 + j)) (G 9 24) 12)) 25 (cpI (fun j => (G 9 38) (60 * 0 + 34 + j)) (G 9 25) 12)))) (sn := fun _ => [.int (iI ((G 9 38) (60 * 0 + 46))), .int (iI ((g 11) 6))]) C dL_law_1306 (c_X9_again_ok l D d (b 9) (a 9) (g 9) (G 9 6) (G 9 9) (G 9 22) (G 9 23) (G 9 24) (G 9 25) (G 9 38) (G 9 39) 0 j8.2.2.2.1 (by decide) (j5.1.1.symm.trans h8)) [63, 65, 68, 77, 78, 79, 80, 91, 92] rfl rfl 63 rfl rfl rfl (Nat.le_of_ble_eq_true rfl) ⟨Nat.le_of_ble_eq_true rfl, Nat.le_of_ble_eq_true rfl⟩ ⟨Nat.le_of_ble_eq_true rfl, Nat.le_of_ble_eq_true rfl⟩ (fun _ => rfl) (fun _ => by simp only [lawW, wput, List.zip_cons_cons, List.zip_nil_right, List.foldl_cons, List.foldl_nil, List.set_cons_succ, List.set_cons_zero, up, reduceIte, Nat.reduceEqDiff, Nat.reduceSub]) (fun _ => rfl) ?_
      intro _ _
      have key := s_again j3.1.2.2.1 j3.1.2.2.2 j8.2.2.2.1 j4 j5 h8
      exact V_icmp_same (pc := 1309) 1337 C dL_law_1309 (by decide) (key.1) (kk a (up (up g 5 (up (up (g 5) 6 ((g 11) 6)) 7 ((g 11) 7))) 9 (up (up (up (g 9) 0 0) 21 ((G 9 38) (60 * 0 + 46))) 13 ((G 9 38) (60 * 0 + 47)))) (up (up G 5 (up (up (up (up (up (up (G 5) 0 (cpI (G 11 0) (G 5 0) 6)) 1 (cpI (G 11 1) (G 5 1) 4)) 2 (cpI (G 11 2) (G 5 2) 12)) 3 (cpI (G 11 3) (G 5 3) 12)) 4 (cpI (G 11 4) (G 5 4) 12)) 5 (cpI (G 11 5) (G 5 5) 12))) 9 (up (up (up (up (up (up (G 9) 6 (cpI (fun j => (G 9 38) (60 * 0 + j)) (G 9 6) 6)) 9 (cpI (fun j => (G 9 38) (60 * 0 + 6 + j)) (G 9 9) 4)) 22 (cpI (fun j => (G 9 38) (60 * 0 + 10 + j) / 10) (G 9 22) 12)) 23 (cpI (fun j => (G 9 38) (60 * 0 + 10 + j) % 10) (G 9 23) 12)) 24 (cpI (fun j => (G 9 38) (60 * 0 + 22 + j)) (G 9 24) 12)) 25 (cpI (fun j => (G 9 38) (60 * 0 + 34 + j)) (G 9 25) 12))) ⟨j1, j2, j3, key.2, j5, j5', j6, j7, j8, j10⟩)
  · rcases j5'.1.2 with h8 | h8
    · refine V_aload_n (pc := 1291) C dL_law_1291 rfl 2 rfl ?_
      refine V_aload_n (pc := 1292) C dL_law_1292 rfl 3 rfl ?_
      refine V_iload_n (pc := 1293) C dL_law_1293 rfl 0 rfl ?_
      refine V_iconst (pc := 1294) C dL_law_1294 ?_
      refine V_iadd (pc := 1295) C dL_law_1295 ?_
      refine V_sld (pc := 1296) X C dL_law_1296 (by omega) (by omega) ?_
      refine V_eqt (y := 1) hk0 ?_
      refine cv_L_153 (pc := 1297) (rest := []) (wn := fun _ => lawW d b a sl rw g G) (sn := fun _ => [.int (iI (-3))]) C dL_law_1297 (c_X8_again_no l D d (b 8) (a 8) (g 8) (b 12) (a 12) (g 12) sl 1 (by decide) j10.2.1 h8) [0, 25, 33] rfl rfl 0 rfl rfl rfl (Nat.le_of_ble_eq_true rfl) ⟨Nat.le_of_ble_eq_true rfl, Nat.le_of_ble_eq_true rfl⟩ ⟨Nat.le_of_ble_eq_true rfl, Nat.le_of_ble_eq_true rfl⟩ (fun _ => rfl) (fun _ => by simp only [lawW, wput, List.zip_cons_cons, List.zip_nil_right, List.foldl_cons, List.foldl_nil, List.set_cons_succ, List.set_cons_zero, up, reduceIte, Nat.reduceEqDiff, Nat.reduceSub]) (fun _ => rfl) ?_
      intro _ _
      refine V_aload_n (pc := 1300) C dL_law_1300 rfl 1 rfl ?_
      refine V_aload_n (pc := 1301) C dL_law_1301 rfl 3 rfl ?_
      refine V_iload_n (pc := 1302) C dL_law_1302 rfl 0 rfl ?_
      refine V_iconst (pc := 1303) C dL_law_1303 ?_
      refine V_iadd (pc := 1304) C dL_law_1304 ?_
      refine V_sld (pc := 1305) X C dL_law_1305 (by omega) (by omega) ?_
      refine V_eqt (y := 1) hk0 ?_
      refine cv_L_156 (pc := 1306) (rest := [.int (iI (-3))]) (wn := fun _ => lawW d b a sl rw (up g 9 (up (g 9) 0 0)) G) (sn := fun _ => [.int (iI (-3)), .int (iI (-3))]) C dL_law_1306 (c_X9_again_no l D d (b 9) (a 9) (g 9) (G 9 39) 1 (by decide) (j5'.1.1.symm.trans h8)) [63, 92] rfl rfl 63 rfl rfl rfl (Nat.le_of_ble_eq_true rfl) ⟨Nat.le_of_ble_eq_true rfl, Nat.le_of_ble_eq_true rfl⟩ ⟨Nat.le_of_ble_eq_true rfl, Nat.le_of_ble_eq_true rfl⟩ (fun _ => rfl) (fun _ => by simp only [lawW, wput, List.zip_cons_cons, List.zip_nil_right, List.foldl_cons, List.foldl_nil, List.set_cons_succ, List.set_cons_zero, up, reduceIte, Nat.reduceEqDiff, Nat.reduceSub]) (fun _ => rfl) ?_
      intro _ _
      exact V_icmp_same (pc := 1309) 1337 C dL_law_1309 (by decide) (rfl) (kk a (up g 9 (up (g 9) 0 0)) G ⟨j1, j2, j3, j4, j5, j5', j6, j7, j8, j10⟩)
    · refine V_aload_n (pc := 1291) C dL_law_1291 rfl 2 rfl ?_
      refine V_aload_n (pc := 1292) C dL_law_1292 rfl 3 rfl ?_
      refine V_iload_n (pc := 1293) C dL_law_1293 rfl 0 rfl ?_
      refine V_iconst (pc := 1294) C dL_law_1294 ?_
      refine V_iadd (pc := 1295) C dL_law_1295 ?_
      refine V_sld (pc := 1296) X C dL_law_1296 (by omega) (by omega) ?_
      refine V_eqt (y := 1) hk0 ?_
      refine cv_L_153 (pc := 1297) (rest := []) (wn := fun _ => lawW d b a sl rw (up g 5 (up (up (g 5) 6 ((g 12) 6)) 7 ((g 12) 7))) (up G 5 (up (up (up (up (up (up (G 5) 0 (cpI (G 12 0) (G 5 0) 6)) 1 (cpI (G 12 1) (G 5 1) 4)) 2 (cpI (G 12 2) (G 5 2) 12)) 3 (cpI (G 12 3) (G 5 3) 12)) 4 (cpI (G 12 4) (G 5 4) 12)) 5 (cpI (G 12 5) (G 5 5) 12)))) (sn := fun _ => [.int (iI ((g 12) 6))]) C dL_law_1297 (c_X8_again_ok l D d (b 8) (a 8) (g 8) (a 5) (g 5) (b 12) (a 12) (g 12) sl (G 12 0) (G 12 1) (G 12 2) (G 12 3) (G 12 4) (G 12 5) (G 5 0) (G 5 1) (G 5 2) (G 5 3) (G 5 4) (G 5 5) 1 (by decide) j10.2.1 h8) [0, 25, 18, 19, 20, 21, 22, 23, 24, 33, 34, 35, 36, 37, 38, 39] rfl rfl 0 rfl rfl rfl (Nat.le_of_ble_eq_true rfl) ⟨Nat.le_of_ble_eq_true rfl, Nat.le_of_ble_eq_true rfl⟩ ⟨Nat.le_of_ble_eq_true rfl, Nat.le_of_ble_eq_true rfl⟩ (fun _ => rfl) (fun _ => by simp only [lawW, wput, List.zip_cons_cons, List.zip_nil_right, List.foldl_cons, List.foldl_nil, List.set_cons_succ, List.set_cons_zero, up, reduceIte, Nat.reduceEqDiff, Nat.reduceSub]) (fun _ => rfl) ?_
      intro _ _
      refine V_aload_n (pc := 1300) C dL_law_1300 rfl 1 rfl ?_
      refine V_aload_n (pc := 1301) C dL_law_1301 rfl 3 rfl ?_
      refine V_iload_n (pc := 1302) C dL_law_1302 rfl 0 rfl ?_
      refine V_iconst (pc := 1303) C dL_law_1303 ?_
      refine V_iadd (pc := 1304) C dL_law_1304 ?_
      refine V_sld (pc := 1305) X C dL_law_1305 (by omega) (by omega) ?_
      refine V_eqt (y := 1) hk0 ?_
      refine cv_L_156 (pc := 1306) (rest := [.int (iI ((g 12) 6))]) (wn := fun _ => lawW d b a sl rw (up (up g 5 (up (up (g 5) 6 ((g 12) 6)) 7 ((g 12) 7))) 9 (up (up (up (g 9) 0 0) 21 ((G 9 38) (60 * 1 + 46))) 13 ((G 9 38) (60 * 1 + 47)))) (up (up G 5 (up (up (up (up (up (up (G 5) 0 (cpI (G 12 0) (G 5 0) 6)) 1 (cpI (G 12 1) (G 5 1) 4)) 2 (cpI (G 12 2) (G 5 2) 12)) 3 (cpI (G 12 3) (G 5 3) 12)) 4 (cpI (G 12 4) (G 5 4) 12)) 5 (cpI (G 12 5) (G 5 5) 12))) 9 (up (up (up (up (up (up (G 9) 6 (cpI (fun j => (G 9 38) (60 * 1 + j)) (G 9 6) 6)) 9 (cpI (fun j => (G 9 38) (60 * 1 + 6 + j)) (G 9 9) 4)) 22 (cpI (fun j => (G 9 38) (60 * 1 + 10 + j) / 10) (G 9 22) 12)) 23 (cpI (fun j => (G 9 38) (60 * 1 + 10 + j) % 10) (G 9 23) 12)) 24 (cpI (fun j => (G 9 38) (60 * 1 + 22 + j)) (G 9 24) 12)) 25 (cpI (fun j => (G 9 38) (60 * 1 + 34 + j)) (G 9 25) 12)))) (sn := fun _ => [.int (iI ((G 9 38) (60 * 1 + 46))), .int (iI ((g 12) 6))]) C dL_law_1306 (c_X9_again_ok l D d (b 9) (a 9) (g 9) (G 9 6) (G 9 9) (G 9 22) (G 9 23) (G 9 24) (G 9 25) (G 9 38) (G 9 39) 1 j8.2.2.2.1 (by decide) (j5'.1.1.symm.trans h8)) [63, 65, 68, 77, 78, 79, 80, 91, 92] rfl rfl 63 rfl rfl rfl (Nat.le_of_ble_eq_true rfl) ⟨Nat.le_of_ble_eq_true rfl, Nat.le_of_ble_eq_true rfl⟩ ⟨Nat.le_of_ble_eq_true rfl, Nat.le_of_ble_eq_true rfl⟩ (fun _ => rfl) (fun _ => by simp only [lawW, wput, List.zip_cons_cons, List.zip_nil_right, List.foldl_cons, List.foldl_nil, List.set_cons_succ, List.set_cons_zero, up, reduceIte, Nat.reduceEqDiff, Nat.reduceSub]) (fun _ => rfl) ?_
      intro _ _
      have key := s_again j3.1.2.2.1 j3.1.2.2.2 j8.2.2.2.1 j4 j5' h8
      exact V_icmp_same (pc := 1309) 1337 C dL_law_1309 (by decide) (key.1) (kk a (up (up g 5 (up (up (g 5) 6 ((g 12) 6)) 7 ((g 12) 7))) 9 (up (up (up (g 9) 0 0) 21 ((G 9 38) (60 * 1 + 46))) 13 ((G 9 38) (60 * 1 + 47)))) (up (up G 5 (up (up (up (up (up (up (G 5) 0 (cpI (G 12 0) (G 5 0) 6)) 1 (cpI (G 12 1) (G 5 1) 4)) 2 (cpI (G 12 2) (G 5 2) 12)) 3 (cpI (G 12 3) (G 5 3) 12)) 4 (cpI (G 12 4) (G 5 4) 12)) 5 (cpI (G 12 5) (G 5 5) 12))) 9 (up (up (up (up (up (up (G 9) 6 (cpI (fun j => (G 9 38) (60 * 1 + j)) (G 9 6) 6)) 9 (cpI (fun j => (G 9 38) (60 * 1 + 6 + j)) (G 9 9) 4)) 22 (cpI (fun j => (G 9 38) (60 * 1 + 10 + j) / 10) (G 9 22) 12)) 23 (cpI (fun j => (G 9 38) (60 * 1 + 10 + j) % 10) (G 9 23) 12)) 24 (cpI (fun j => (G 9 38) (60 * 1 + 22 + j)) (G 9 24) 12)) 25 (cpI (fun j => (G 9 38) (60 * 1 + 34 + j)) (G 9 25) 12))) ⟨j1, j2, j3, key.2, j5, j5', j6, j7, j8, j10⟩)
  · refine V_aload_n (pc := 1291) C dL_law_1291 rfl 2 rfl ?_
    refine V_aload_n (pc := 1292) C dL_law_1292 rfl 3 rfl ?_
    refine V_iload_n (pc := 1293) C dL_law_1293 rfl 0 rfl ?_
    refine V_iconst (pc := 1294) C dL_law_1294 ?_
    refine V_iadd (pc := 1295) C dL_law_1295 ?_
    refine V_sld (pc := 1296) X C dL_law_1296 (by omega) (by omega) ?_
    refine cv_L_153 (pc := 1297) (rest := []) (wn := fun _ => lawW d b a sl rw g G) (sn := fun _ => [.int (iI (-1))]) C dL_law_1297 (c_X8_again_bad l D d (b 8) (a 8) (g 8) (xz xs (i + 1)) (xz_sm xs _) hbad) [0] rfl rfl 0 rfl rfl rfl (Nat.le_of_ble_eq_true rfl) ⟨Nat.le_of_ble_eq_true rfl, Nat.le_of_ble_eq_true rfl⟩ ⟨Nat.le_of_ble_eq_true rfl, Nat.le_of_ble_eq_true rfl⟩ (fun _ => rfl) (fun _ => by simp only [lawW, wput, List.zip_cons_cons, List.zip_nil_right, List.foldl_cons, List.foldl_nil, List.set_cons_succ, List.set_cons_zero, up, reduceIte, Nat.reduceEqDiff, Nat.reduceSub]) (fun _ => rfl) ?_
    intro _ _
    refine V_aload_n (pc := 1300) C dL_law_1300 rfl 1 rfl ?_
    refine V_aload_n (pc := 1301) C dL_law_1301 rfl 3 rfl ?_
    refine V_iload_n (pc := 1302) C dL_law_1302 rfl 0 rfl ?_
    refine V_iconst (pc := 1303) C dL_law_1303 ?_
    refine V_iadd (pc := 1304) C dL_law_1304 ?_
    refine V_sld (pc := 1305) X C dL_law_1305 (by omega) (by omega) ?_
    refine cv_L_156 (pc := 1306) (rest := [.int (iI (-1))]) (wn := fun _ => lawW d b a sl rw (up g 9 (up (g 9) 0 0)) G) (sn := fun _ => [.int (iI (-1)), .int (iI (-1))]) C dL_law_1306 (c_X9_again_bad l D d (b 9) (a 9) (g 9) (xz xs (i + 1)) (xz_sm xs _) hbad) [63] rfl rfl 63 rfl rfl rfl (Nat.le_of_ble_eq_true rfl) ⟨Nat.le_of_ble_eq_true rfl, Nat.le_of_ble_eq_true rfl⟩ ⟨Nat.le_of_ble_eq_true rfl, Nat.le_of_ble_eq_true rfl⟩ (fun _ => rfl) (fun _ => by simp only [lawW, wput, List.zip_cons_cons, List.zip_nil_right, List.foldl_cons, List.foldl_nil, List.set_cons_succ, List.set_cons_zero, up, reduceIte, Nat.reduceEqDiff, Nat.reduceSub]) (fun _ => rfl) ?_
    intro _ _
    exact V_icmp_same (pc := 1309) 1337 C dL_law_1309 (by decide) (rfl) (kk a (up g 9 (up (g 9) 0 0)) G ⟨j1, j2, j3, j4, j5, j5', j6, j7, j8, j10⟩)
set_option maxRecDepth 100000 in
set_option maxHeartbeats 4000000 in
theorem law_count {p : Program} {l : Launch} {e : Env} {s : State} {m : MethodId} {args : Array Value} {below : List Frame} {meth : Method} {c : Code} {A : Nat → Prop} {D : va_G} {d : Nat → ClassId} {Q : State → Prop} {bs L : Nat} {xs : Nat → Int32} {b : Nat → Nat} {a : Nat → Nat → Nat} {sl rw : Nat → Option Nat} {g : Nat → Nat → Int} {G : Nat → Nat → Int → Int} {i : Int} (C : CX p s m args c D d cL_law 4 RL) (X : SX s A bs L xs) (hi : 0 ≤ i ∧ i + 5 < L) (hJ : JJ b a sl rw g G)
    (kk : ∀ (a' : Nat → Nat → Nat) (g' : Nat → Nat → Int) (G' : Nat → Nat → Int → Int), JJ b a' sl rw g' G' → V p l e room_1 s m args below meth c A D Q 4 98 19494 (lawW d b a' sl rw g' G') [(3, .int (iI i)), (2, .ref (b 9)), (1, .ref (b 8)), (0, .ref bs)] 1337 []) : V p l e room_1 s m args below meth c A D Q 4 98 19494 (lawW d b a sl rw g G) [(3, .int (iI i)), (2, .ref (b 9)), (1, .ref (b 8)), (0, .ref bs)] 1314 [] := by
  obtain ⟨j1, j2, j3, j4, j5, j5', j6, j7, j8, j10⟩ := hJ
  refine V_aload_n (pc := 1314) C dL_law_1314 rfl 2 rfl ?_
  refine V_aload_n (pc := 1315) C dL_law_1315 rfl 3 rfl ?_
  refine V_iload_n (pc := 1316) C dL_law_1316 rfl 0 rfl ?_
  refine V_iconst (pc := 1317) C dL_law_1317 ?_
  refine V_iadd (pc := 1318) C dL_law_1318 ?_
  refine V_sld (pc := 1319) X C dL_law_1319 (by omega) (by omega) ?_
  refine cv_L_157 (pc := 1320) (rest := []) (wn := fun _ => lawW d b a sl rw g G) (sn := fun _ => [.int (iI (pCount ((g 6) 6) ((g 6) 7) ((g 5) 6) ((g 0) 5) ((g 1) 2) ((g 5) 7) ((g 4) 1) (xz xs (i + 1))))]) C dL_law_1320 (c_X8_count l D d (b 8) (a 8) (g 8) (a 4) (g 4) (a 6) (g 6) (a 5) (g 5) (a 0) (g 0) (a 1) (g 1) (xz xs (i + 1)) (xz_sm xs _)) [0, 1, 4, 18, 51, 60] rfl rfl 0 rfl rfl rfl (Nat.le_of_ble_eq_true rfl) ⟨Nat.le_of_ble_eq_true rfl, Nat.le_of_ble_eq_true rfl⟩ ⟨Nat.le_of_ble_eq_true rfl, Nat.le_of_ble_eq_true rfl⟩ (fun _ => rfl) (fun _ => by simp only [lawW, wput, List.zip_cons_cons, List.zip_nil_right, List.foldl_cons, List.foldl_nil, List.set_cons_succ, List.set_cons_zero, up, reduceIte, Nat.reduceEqDiff, Nat.reduceSub]) (fun _ => rfl) ?_
  intro _ _
  refine V_aload_n (pc := 1323) C dL_law_1323 rfl 1 rfl ?_
  refine V_aload_n (pc := 1324) C dL_law_1324 rfl 3 rfl ?_
  refine V_iload_n (pc := 1325) C dL_law_1325 rfl 0 rfl ?_
  refine V_iconst (pc := 1326) C dL_law_1326 ?_
  refine V_iadd (pc := 1327) C dL_law_1327 ?_
  refine V_sld (pc := 1328) X C dL_law_1328 (by omega) (by omega) ?_
  refine cv_L_160 (pc := 1329) (rest := [.int (iI (pCount ((g 6) 6) ((g 6) 7) ((g 5) 6) ((g 0) 5) ((g 1) 2) ((g 5) 7) ((g 4) 1) (xz xs (i + 1))))]) (wn := fun _ => lawW d b a sl rw (up g 9 (up (g 9) 0 0)) G) (sn := fun _ => [.int (iI (pCount ((g 9) 4) ((g 9) 5) ((g 9) 21) ((g 9) 26) ((g 9) 32) ((g 9) 13) ((g 9) 2) (xz xs (i + 1)))), .int (iI (pCount ((g 6) 6) ((g 6) 7) ((g 5) 6) ((g 0) 5) ((g 1) 2) ((g 5) 7) ((g 4) 1) (xz xs (i + 1))))]) C dL_law_1329 (c_X9_count l D d (b 9) (a 9) (g 9) (xz xs (i + 1)) (xz_sm xs _)) [63] rfl rfl 63 rfl rfl rfl (Nat.le_of_ble_eq_true rfl) ⟨Nat.le_of_ble_eq_true rfl, Nat.le_of_ble_eq_true rfl⟩ ⟨Nat.le_of_ble_eq_true rfl, Nat.le_of_ble_eq_true rfl⟩ (fun _ => rfl) (fun _ => by simp only [lawW, wput, List.zip_cons_cons, List.zip_nil_right, List.foldl_cons, List.foldl_nil, List.set_cons_succ, List.set_cons_zero, up, reduceIte, Nat.reduceEqDiff, Nat.reduceSub]) (fun _ => rfl) ?_
  intro _ _
  exact V_icmp_same (pc := 1332) 1337 C dL_law_1332 (by decide) (by rw [j3.1.1, j3.1.2.1, j4.1.1, j6.1.1, j7.1.1, j4.1.2.1, j1.1]) (kk a (up g 9 (up (g 9) 0 0)) G ⟨j1, j2, j3, j4, j5, j5', j6, j7, j8, j10⟩)
