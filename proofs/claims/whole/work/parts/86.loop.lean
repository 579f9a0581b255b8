set_option maxRecDepth 100000 in
set_option maxHeartbeats 4000000 in
/-- the law's loop: at the head of it the two worlds are alike -/
theorem law_loop {p : Program} {l : Launch} {e : Env} {s : State} {m : MethodId} {args : Array Value} {below : List Frame} {meth : Method} {c : Code} {A : Nat → Prop} {D : va_G} {d : Nat → ClassId} {Q : State → Prop} {bs L : Nat} {xs : Nat → Int32} {b : Nat → Nat} {sl rw : Nat → Option Nat} (C : CX p s m args c D d cL_law 4 RL) (X : SX s A bs L xs)
    (hex : ∀ (a : Nat → Nat → Nat) (g : Nat → Nat → Int) (G : Nat → Nat → Int → Int) (i : Int), V p l e room_1 s m args below meth c A D Q 4 98 19494 (lawW d b a sl rw g G) [(3, .int (iI i)), (2, .ref (b 9)), (1, .ref (b 8)), (0, .ref bs)] 1343 []) : ∀ (n : Nat) (i : Int) (a : Nat → Nat → Nat) (g : Nat → Nat → Int) (G : Nat → Nat → Int → Int), 0 ≤ i → i ≤ L → ((L : Int) - i).toNat < n → JJ b a sl rw g G → V p l e room_1 s m args below meth c A D Q 4 98 19494 (lawW d b a sl rw g G) [(3, .int (iI i)), (2, .ref (b 9)), (1, .ref (b 8)), (0, .ref bs)] 18 [] := by
  intro n
  induction n with
  | zero => intro i a g G _ _ h _; exact absurd h (Nat.not_lt_zero _)
  | succ n ih =>
    intro i a g G h0 h1 hm hJ
    have X4 := X.2.2.2
    have kk : i + 5 < L → ∀ (a' : Nat → Nat → Nat) (g' : Nat → Nat → Int) (G' : Nat → Nat → Int → Int), JJ b a' sl rw g' G' → V p l e room_1 s m args below meth c A D Q 4 98 19494 (lawW d b a' sl rw g' G') [(3, .int (iI i)), (2, .ref (b 9)), (1, .ref (b 8)), (0, .ref bs)] 1337 [] := by
      intro hl a' g' G' hJ'
      refine V_iinc (lv' := [(3, .int (iI (i + 6))), (2, .ref (b 9)), (1, .ref (b 8)), (0, .ref bs)]) (pc := 1337) C dL_law_1337 0 rfl (by decide) rfl ?_
      refine V_goto (pc := 1340) 18 C dL_law_1340 (by decide) ?_
      exact ih (i + 6) a' g' G' (by omega) (by omega) (by omega) hJ'
    refine V_iload_n (pc := 18) C dL_law_18 rfl 0 rfl ?_
    refine V_aload_n (pc := 19) C dL_law_19 rfl 3 rfl ?_
    refine V_slen (pc := 20) X C dL_law_20 ?_
    refine V_bipush (pc := 21) C dL_law_21 rfl ?_
    refine V_isub (pc := 23) C dL_law_23 ?_
    refine V_icmp_gt (pc := 24) 1343 C dL_law_24 (by decide) (sm_i (by omega)) (sm_i (by omega)) (fun _ => hex a g G i) (fun c24 => ?_)
    have hi : 0 ≤ i ∧ i + 5 < L := by omega
    refine V_aload_n (pc := 27) C dL_law_27 rfl 3 rfl ?_
    refine V_iload_n (pc := 28) C dL_law_28 rfl 0 rfl ?_
    refine V_sld (pc := 29) X C dL_law_29 h0 (by omega) ?_
    refine V_bipush (pc := 30) C dL_law_30 rfl ?_
    refine V_iand (z := xz xs i % 64) (pc := 32) C dL_law_32 (and63_i _) ?_
    by_cases k0 : xz xs i % 64 = 0
    · exact V_tswIn (pc := 33) (k := 0) 184 C dL_law_33 k0 (sm_i (by omega)) (by decide) (by decide) rfl (by decide) (law_write C X hi hJ (kk hi.2))
    by_cases k1 : xz xs i % 64 = 1
    · exact V_tswIn (pc := 33) (k := 1) 247 C dL_law_33 k1 (sm_i (by omega)) (by decide) (by decide) rfl (by decide) (law_wipe C X hi hJ (kk hi.2))
    by_cases k2 : xz xs i % 64 = 2
    · exact V_tswIn (pc := 33) (k := 2) 260 C dL_law_33 k2 (sm_i (by omega)) (by decide) (by decide) rfl (by decide) (law_fault C X hi hJ (kk hi.2))
    by_cases k3 : xz xs i % 64 = 3
    · exact V_tswIn (pc := 33) (k := 3) 273 C dL_law_33 k3 (sm_i (by omega)) (by decide) (by decide) rfl (by decide) (law_market C X hi hJ (kk hi.2))
    by_cases k4 : xz xs i % 64 = 4
    · exact V_tswIn (pc := 33) (k := 4) 286 C dL_law_33 k4 (sm_i (by omega)) (by decide) (by decide) rfl (by decide) (law_person C X hi hJ (kk hi.2))
    by_cases k5 : xz xs i % 64 = 5
    · exact V_tswIn (pc := 33) (k := 5) 319 C dL_law_33 k5 (sm_i (by omega)) (by decide) (by decide) rfl (by decide) (law_counter C X hi hJ (kk hi.2))
    by_cases k6 : xz xs i % 64 = 6
    · exact V_tswIn (pc := 33) (k := 6) 352 C dL_law_33 k6 (sm_i (by omega)) (by decide) (by decide) rfl (by decide) (law_barred C X hi hJ (kk hi.2))
    by_cases k7 : xz xs i % 64 = 7
    · exact V_tswIn (pc := 33) (k := 7) 385 C dL_law_33 k7 (sm_i (by omega)) (by decide) (by decide) rfl (by decide) (law_plaster C X hi hJ (kk hi.2))
    by_cases k8 : xz xs i % 64 = 8
    · exact V_tswIn (pc := 33) (k := 8) 418 C dL_law_33 k8 (sm_i (by omega)) (by decide) (by decide) rfl (by decide) (law_common C X hi hJ (kk hi.2))
    by_cases k9 : xz xs i % 64 = 9
    · exact V_tswIn (pc := 33) (k := 9) 441 C dL_law_33 k9 (sm_i (by omega)) (by decide) (by decide) rfl (by decide) (law_buy C X hi hJ (kk hi.2))
    by_cases k10 : xz xs i % 64 = 10
    · exact V_tswIn (pc := 33) (k := 10) 484 C dL_law_33 k10 (sm_i (by omega)) (by decide) (by decide) rfl (by decide) (law_undo C X hi hJ (kk hi.2))
    by_cases k11 : xz xs i % 64 = 11
    · exact V_tswIn (pc := 33) (k := 11) 497 C dL_law_33 k11 (sm_i (by omega)) (by decide) (by decide) rfl (by decide) (law_sale C X hi hJ (kk hi.2))
    by_cases k12 : xz xs i % 64 = 12
    · exact V_tswIn (pc := 33) (k := 12) 530 C dL_law_33 k12 (sm_i (by omega)) (by decide) (by decide) rfl (by decide) (law_truly C X hi hJ (kk hi.2))
    by_cases k13 : xz xs i % 64 = 13
    · exact V_tswIn (pc := 33) (k := 13) 589 C dL_law_33 k13 (sm_i (by omega)) (by decide) (by decide) rfl (by decide) (law_cheapest C X hi hJ (kk hi.2))
    by_cases k14 : xz xs i % 64 = 14
    · exact V_tswIn (pc := 33) (k := 14) 622 C dL_law_33 k14 (sm_i (by omega)) (by decide) (by decide) rfl (by decide) (law_cheapestBy C X hi hJ (kk hi.2))
    by_cases k15 : xz xs i % 64 = 15
    · exact V_tswIn (pc := 33) (k := 15) 665 C dL_law_33 k15 (sm_i (by omega)) (by decide) (by decide) rfl (by decide) (law_exchange C X hi hJ (kk hi.2))
    by_cases k16 : xz xs i % 64 = 16
    · exact V_tswIn (pc := 33) (k := 16) 728 C dL_law_33 k16 (sm_i (by omega)) (by decide) (by decide) rfl (by decide) (law_unchange C X hi hJ (kk hi.2))
    by_cases k17 : xz xs i % 64 = 17
    · exact V_tswIn (pc := 33) (k := 17) 741 C dL_law_33 k17 (sm_i (by omega)) (by decide) (by decide) rfl (by decide) (law_ring C X hi hJ (kk hi.2))
    by_cases k18 : xz xs i % 64 = 18
    · exact V_tswIn (pc := 33) (k := 18) 791 C dL_law_33 k18 (sm_i (by omega)) (by decide) (by decide) rfl (by decide) (law_ringAt C X hi hJ (kk hi.2))
    by_cases k19 : xz xs i % 64 = 19
    · exact V_tswIn (pc := 33) (k := 19) 824 C dL_law_33 k19 (sm_i (by omega)) (by decide) (by decide) rfl (by decide) (law_come C X hi hJ (kk hi.2))
    by_cases k20 : xz xs i % 64 = 20
    · exact V_tswIn (pc := 33) (k := 20) 857 C dL_law_33 k20 (sm_i (by omega)) (by decide) (by decide) rfl (by decide) (law_earned C X hi hJ (kk hi.2))
    by_cases k21 : xz xs i % 64 = 21
    · exact V_tswIn (pc := 33) (k := 21) 900 C dL_law_33 k21 (sm_i (by omega)) (by decide) (by decide) rfl (by decide) (law_ask C X hi hJ (kk hi.2))
    by_cases k22 : xz xs i % 64 = 22
    · exact V_tswIn (pc := 33) (k := 22) 933 C dL_law_33 k22 (sm_i (by omega)) (by decide) (by decide) rfl (by decide) (law_keeper C X hi hJ (kk hi.2))
    by_cases k23 : xz xs i % 64 = 23
    · exact V_tswIn (pc := 33) (k := 23) 982 C dL_law_33 k23 (sm_i (by omega)) (by decide) (by decide) rfl (by decide) (law_losers C X hi hJ (kk hi.2))
    by_cases k24 : xz xs i % 64 = 24
    · exact V_tswIn (pc := 33) (k := 24) 1005 C dL_law_33 k24 (sm_i (by omega)) (by decide) (by decide) rfl (by decide) (law_fairest C X hi hJ (kk hi.2))
    by_cases k25 : xz xs i % 64 = 25
    · exact V_tswIn (pc := 33) (k := 25) 1018 C dL_law_33 k25 (sm_i (by omega)) (by decide) (by decide) rfl (by decide) (law_cut C X hi hJ (kk hi.2))
    by_cases k26 : xz xs i % 64 = 26
    · exact V_tswIn (pc := 33) (k := 26) 1077 C dL_law_33 k26 (sm_i (by omega)) (by decide) (by decide) rfl (by decide) (law_when C X hi hJ (kk hi.2))
    by_cases k27 : xz xs i % 64 = 27
    · exact V_tswIn (pc := 33) (k := 27) 1130 C dL_law_33 k27 (sm_i (by omega)) (by decide) (by decide) rfl (by decide) (law_held C X hi hJ (kk hi.2))
    by_cases k28 : xz xs i % 64 = 28
    · exact V_tswIn (pc := 33) (k := 28) 1193 C dL_law_33 k28 (sm_i (by omega)) (by decide) (by decide) rfl (by decide) (law_unheld C X hi hJ (kk hi.2))
    by_cases k29 : xz xs i % 64 = 29
    · exact V_tswIn (pc := 33) (k := 29) 1206 C dL_law_33 k29 (sm_i (by omega)) (by decide) (by decide) rfl (by decide) (law_mayBe C X hi hJ (kk hi.2))
    by_cases k30 : xz xs i % 64 = 30
    · exact V_tswIn (pc := 33) (k := 30) 1219 C dL_law_33 k30 (sm_i (by omega)) (by decide) (by decide) rfl (by decide) (law_arm C X hi hJ (kk hi.2))
    by_cases k31 : xz xs i % 64 = 31
    · exact V_tswIn (pc := 33) (k := 31) 1268 C dL_law_33 k31 (sm_i (by omega)) (by decide) (by decide) rfl (by decide) (law_keep C X hi hJ (kk hi.2))
    by_cases k32 : xz xs i % 64 = 32
    · exact V_tswIn (pc := 33) (k := 32) 1291 C dL_law_33 k32 (sm_i (by omega)) (by decide) (by decide) rfl (by decide) (law_again C X hi hJ (kk hi.2))
    by_cases k33 : xz xs i % 64 = 33
    · exact V_tswIn (pc := 33) (k := 33) 1314 C dL_law_33 k33 (sm_i (by omega)) (by decide) (by decide) rfl (by decide) (law_count C X hi hJ (kk hi.2))
    exact V_tswOut (pc := 33) 1337 C dL_law_33 (sm_i (by omega)) (by omega) (by decide) (kk hi.2 a g G hJ)
