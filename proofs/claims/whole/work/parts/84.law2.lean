set_option maxRecDepth 100000 in
set_option maxHeartbeats 4000000 in
theorem law_truly {p : Program} {l : Launch} {e : Env} {s : State} {m : MethodId} {args : Array Value} {below : List Frame} {meth : Method} {c : Code} {A : Nat → Prop} {D : va_G} {d : Nat → ClassId} {Q : State → Prop} {bs L : Nat} {xs : Nat → Int32} {b : Nat → Nat} {a : Nat → Nat → Nat} {sl rw : Nat → Option Nat} {g : Nat → Nat → Int} {G : Nat → Nat → Int → Int} {i : Int} (C : CX p s m args c D d cL_law 4 RL) (X : SX s A bs L xs) (hi : 0 ≤ i ∧ i + 5 < L) (hJ : JJ b a sl rw g G)
    (kk : ∀ (a' : Nat → Nat → Nat) (g' : Nat → Nat → Int) (G' : Nat → Nat → Int → Int), JJ b a' sl rw g' G' → V p l e room_1 s m args below meth c A D Q 4 98 19494 (lawW d b a' sl rw g' G') [(3, .int (iI i)), (2, .ref (b 9)), (1, .ref (b 8)), (0, .ref bs)] 1337 []) : V p l e room_1 s m args below meth c A D Q 4 98 19494 (lawW d b a sl rw g G) [(3, .int (iI i)), (2, .ref (b 9)), (1, .ref (b 8)), (0, .ref bs)] 530 [] := by
  obtain ⟨j1, j2, j3, j4, j5, j5', j6, j7, j8, j10⟩ := hJ
  refine V_aload_n (pc := 530) C dL_law_530 rfl 2 rfl ?_
  refine V_aload_n (pc := 531) C dL_law_531 rfl 3 rfl ?_
  refine V_iload_n (pc := 532) C dL_law_532 rfl 0 rfl ?_
  refine V_iconst (pc := 533) C dL_law_533 ?_
  refine V_iadd (pc := 534) C dL_law_534 ?_
  refine V_sld (pc := 535) X C dL_law_535 (by omega) (by omega) ?_
  refine V_aload_n (pc := 536) C dL_law_536 rfl 3 rfl ?_
  refine V_iload_n (pc := 537) C dL_law_537 rfl 0 rfl ?_
  refine V_iconst (pc := 538) C dL_law_538 ?_
  refine V_iadd (pc := 539) C dL_law_539 ?_
  refine V_sld (pc := 540) X C dL_law_540 (by omega) (by omega) ?_
  refine V_aload_n (pc := 541) C dL_law_541 rfl 3 rfl ?_
  refine V_iload_n (pc := 542) C dL_law_542 rfl 0 rfl ?_
  refine V_iconst (pc := 543) C dL_law_543 ?_
  refine V_iadd (pc := 544) C dL_law_544 ?_
  refine V_sld (pc := 545) X C dL_law_545 (by omega) (by omega) ?_
  refine V_bool (pc := 546) C (xz_sm xs _) dL_law_546 dL_law_549 dL_law_550 dL_law_553 (by decide) (by decide) (fun w1 hw1 => ?_)
  have h01 := bI_or hw1
  refine cv_L_68 (pc := 554) (rest := []) (wn := fun _ => lawW d b a sl rw g G) (sn := fun _ => [.int (iI (pTruly ((g 6) 6) ((g 6) 7) (G 5 0) (G 6 4) (xz xs (i + 1)) (xz xs (i + 2)) w1))]) C dL_law_554 (c_X8_truly l D d (b 8) (a 8) (g 8) (a 6) (g 6) (a 5) (g 5) (G 6 4) (G 5 0) (xz xs (i + 1)) (xz xs (i + 2)) w1 j3.1.2.2.1 j3.1.2.2.2 j3.2.2.1.1 j4.2.1.1 (fun j hj => (j4.2.1.2.2 j hj).2) (fun j hj => (j3.2.2.1.2.2 j hj).2) (xz_sm xs _) (xz_sm xs _) h01) [0, 4, 9, 18, 19] rfl rfl 0 rfl rfl rfl (Nat.le_of_ble_eq_true rfl) ⟨Nat.le_of_ble_eq_true rfl, Nat.le_of_ble_eq_true rfl⟩ ⟨Nat.le_of_ble_eq_true rfl, Nat.le_of_ble_eq_true rfl⟩ (fun _ => rfl) (fun _ => by simp only [lawW, wput, List.zip_cons_cons, List.zip_nil_right, List.foldl_cons, List.foldl_nil, List.set_cons_succ, List.set_cons_zero, up, reduceIte, Nat.reduceEqDiff, Nat.reduceSub]) (fun _ => rfl) ?_
  intro _ _
  refine V_aload_n (pc := 557) C dL_law_557 rfl 1 rfl ?_
  refine V_aload_n (pc := 558) C dL_law_558 rfl 3 rfl ?_
  refine V_iload_n (pc := 559) C dL_law_559 rfl 0 rfl ?_
  refine V_iconst (pc := 560) C dL_law_560 ?_
  refine V_iadd (pc := 561) C dL_law_561 ?_
  refine V_sld (pc := 562) X C dL_law_562 (by omega) (by omega) ?_
  refine V_aload_n (pc := 563) C dL_law_563 rfl 3 rfl ?_
  refine V_iload_n (pc := 564) C dL_law_564 rfl 0 rfl ?_
  refine V_iconst (pc := 565) C dL_law_565 ?_
  refine V_iadd (pc := 566) C dL_law_566 ?_
  refine V_sld (pc := 567) X C dL_law_567 (by omega) (by omega) ?_
  refine V_aload_n (pc := 568) C dL_law_568 rfl 3 rfl ?_
  refine V_iload_n (pc := 569) C dL_law_569 rfl 0 rfl ?_
  refine V_iconst (pc := 570) C dL_law_570 ?_
  refine V_iadd (pc := 571) C dL_law_571 ?_
  refine V_sld (pc := 572) X C dL_law_572 (by omega) (by omega) ?_
  refine V_bool (pc := 573) C (xz_sm xs _) dL_law_573 dL_law_576 dL_law_577 dL_law_580 (by decide) (by decide) (fun w2 hw2 => ?_)
  obtain rfl : w1 = w2 := hw1.trans hw2.symm
  refine cv_L_72 (pc := 581) (rest := [.int (iI (pTruly ((g 6) 6) ((g 6) 7) (G 5 0) (G 6 4) (xz xs (i + 1)) (xz xs (i + 2)) w1))]) (wn := fun _ => lawW d b a sl rw (up g 9 (up (g 9) 0 0)) G) (sn := fun _ => [.int (iI (pTruly ((g 9) 4) ((g 9) 5) (G 9 6) (G 9 8) (xz xs (i + 1)) (xz xs (i + 2)) w1)), .int (iI (pTruly ((g 6) 6) ((g 6) 7) (G 5 0) (G 6 4) (xz xs (i + 1)) (xz xs (i + 2)) w1))]) C dL_law_581 (c_X9_truly l D d (b 9) (a 9) (g 9) (G 9 6) (G 9 8) (xz xs (i + 1)) (xz xs (i + 2)) w1 (by rw [← j3.1.1]; exact j3.1.2.2.1) (by rw [← j3.1.2.1]; exact j3.1.2.2.2) j4.2.1.2.1 j3.2.2.1.2.1 (fun j hj => by have h := j4.2.1.2.2 j (by rw [j3.1.1]; exact hj); rw [← h.1]; exact h.2) (fun j hj => by have h := j3.2.2.1.2.2 j (by rw [j3.1.2.1]; exact hj); rw [← h.1]; exact h.2) (xz_sm xs _) (xz_sm xs _) h01) [63, 65, 67] rfl rfl 63 rfl rfl rfl (Nat.le_of_ble_eq_true rfl) ⟨Nat.le_of_ble_eq_true rfl, Nat.le_of_ble_eq_true rfl⟩ ⟨Nat.le_of_ble_eq_true rfl, Nat.le_of_ble_eq_true rfl⟩ (fun _ => rfl) (fun _ => by simp only [lawW, wput, List.zip_cons_cons, List.zip_nil_right, List.foldl_cons, List.foldl_nil, List.set_cons_succ, List.set_cons_zero, up, reduceIte, Nat.reduceEqDiff, Nat.reduceSub]) (fun _ => rfl) ?_
  intro _ _
  exact V_icmp_same (pc := 584) 1337 C dL_law_584 (by decide) (e_truly j3 j4) (kk a (up g 9 (up (g 9) 0 0)) G ⟨j1, j2, j3, j4, j5, j5', j6, j7, j8, j10⟩)
set_option maxRecDepth 100000 in
set_option maxHeartbeats 4000000 in
theorem law_cheapest {p : Program} {l : Launch} {e : Env} {s : State} {m : MethodId} {args : Array Value} {below : List Frame} {meth : Method} {c : Code} {A : Nat → Prop} {D : va_G} {d : Nat → ClassId} {Q : State → Prop} {bs L : Nat} {xs : Nat → Int32} {b : Nat → Nat} {a : Nat → Nat → Nat} {sl rw : Nat → Option Nat} {g : Nat → Nat → Int} {G : Nat → Nat → Int → Int} {i : Int} (C : CX p s m args c D d cL_law 4 RL) (X : SX s A bs L xs) (hi : 0 ≤ i ∧ i + 5 < L) (hJ : JJ b a sl rw g G)
    (kk : ∀ (a' : Nat → Nat → Nat) (g' : Nat → Nat → Int) (G' : Nat → Nat → Int → Int), JJ b a' sl rw g' G' → V p l e room_1 s m args below meth c A D Q 4 98 19494 (lawW d b a' sl rw g' G') [(3, .int (iI i)), (2, .ref (b 9)), (1, .ref (b 8)), (0, .ref bs)] 1337 []) : V p l e room_1 s m args below meth c A D Q 4 98 19494 (lawW d b a sl rw g G) [(3, .int (iI i)), (2, .ref (b 9)), (1, .ref (b 8)), (0, .ref bs)] 589 [] := by
  obtain ⟨j1, j2, j3, j4, j5, j5', j6, j7, j8, j10⟩ := hJ
  refine V_aload_n (pc := 589) C dL_law_589 rfl 2 rfl ?_
  refine V_aload_n (pc := 590) C dL_law_590 rfl 3 rfl ?_
  refine V_iload_n (pc := 591) C dL_law_591 rfl 0 rfl ?_
  refine V_iconst (pc := 592) C dL_law_592 ?_
  refine V_iadd (pc := 593) C dL_law_593 ?_
  refine V_sld (pc := 594) X C dL_law_594 (by omega) (by omega) ?_
  refine V_aload_n (pc := 595) C dL_law_595 rfl 3 rfl ?_
  refine V_iload_n (pc := 596) C dL_law_596 rfl 0 rfl ?_
  refine V_iconst (pc := 597) C dL_law_597 ?_
  refine V_iadd (pc := 598) C dL_law_598 ?_
  refine V_sld (pc := 599) X C dL_law_599 (by omega) (by omega) ?_
  refine cv_L_73 (pc := 600) (rest := []) (wn := fun u9 => lawW d b a sl rw (up g 7 u9.2.1) (up (up G 13 (up (up (up (up (up (up (up (G 13) 0 (u9.2.2.1 0)) 1 (u9.2.2.1 1)) 2 (u9.2.2.1 2)) 3 (u9.2.2.1 3)) 4 (u9.2.2.1 4)) 5 (u9.2.2.1 5)) 6 (u9.2.2.1 6))) 7 (up (G 7) 1 u9.2.2.2))) (sn := fun u9 => [.int (iI (u9.1))]) C dL_law_600 (c_X8_cheapest l D d (b 8) (a 8) (g 8) (a 6) (g 6) (a 5) (g 5) (a 7) (g 7) rw (a 13) (G 13 0) (G 13 1) (G 13 2) (G 13 3) (G 13 4) (G 13 5) (G 13 6) (G 7 1) (G 6 1) (G 6 3) (G 6 4) (G 5 0) (G 5 1) (xz xs (i + 1)) (xz xs (i + 2)) j3.1.2.2.1 j3.1.2.2.2 j3.2.1.1 j3.2.2.2.1.1 j3.2.2.1.1 j4.2.1.1 j4.2.2.1.1 (fun j hj => (j4.2.1.2.2 j hj).2) (fun j hj => (j3.2.2.1.2.2 j hj).2) j10.2.2 (xz_sm xs _) (xz_sm xs _)) [0, 4, 6, 8, 9, 18, 19, 20, 40, 41, 42, 43, 44, 45, 46, 47, 48, 49] rfl rfl 0 rfl rfl rfl (Nat.le_of_ble_eq_true rfl) ⟨Nat.le_of_ble_eq_true rfl, Nat.le_of_ble_eq_true rfl⟩ ⟨Nat.le_of_ble_eq_true rfl, Nat.le_of_ble_eq_true rfl⟩ (fun u9 => rfl) (fun u9 => by simp only [lawW, wput, List.zip_cons_cons, List.zip_nil_right, List.foldl_cons, List.foldl_nil, List.set_cons_succ, List.set_cons_zero, up, reduceIte, Nat.reduceEqDiff, Nat.reduceSub]) (fun u9 => rfl) ?_
  rintro u hu
  refine V_aload_n (pc := 603) C dL_law_603 rfl 1 rfl ?_
  refine V_aload_n (pc := 604) C dL_law_604 rfl 3 rfl ?_
  refine V_iload_n (pc := 605) C dL_law_605 rfl 0 rfl ?_
  refine V_iconst (pc := 606) C dL_law_606 ?_
  refine V_iadd (pc := 607) C dL_law_607 ?_
  refine V_sld (pc := 608) X C dL_law_608 (by omega) (by omega) ?_
  refine V_aload_n (pc := 609) C dL_law_609 rfl 3 rfl ?_
  refine V_iload_n (pc := 610) C dL_law_610 rfl 0 rfl ?_
  refine V_iconst (pc := 611) C dL_law_611 ?_
  refine V_iadd (pc := 612) C dL_law_612 ?_
  refine V_sld (pc := 613) X C dL_law_613 (by omega) (by omega) ?_
  refine cv_L_76 (pc := 614) (rest := [.int (iI (u.1))]) (wn := fun u9 => lawW d b a sl rw (up (up g 7 u.2.1) 9 (up (g 9) 0 0)) (up (up (up G 13 (up (up (up (up (up (up (up (G 13) 0 (u.2.2.1 0)) 1 (u.2.2.1 1)) 2 (u.2.2.1 2)) 3 (u.2.2.1 3)) 4 (u.2.2.1 4)) 5 (u.2.2.1 5)) 6 (u.2.2.1 6))) 7 (up (G 7) 1 u.2.2.2)) 9 (up (up (G 9) 40 u9.2.1) 41 u9.2.2))) (sn := fun u9 => [.int (iI (u9.1)), .int (iI (u.1))]) C dL_law_614 (c_X9_cheapest l D d (b 9) (a 9) (g 9) (G 9 6) (G 9 7) (G 9 8) (G 9 9) (G 9 10) (G 9 40) (G 9 41) (xz xs (i + 1)) (xz xs (i + 2)) (by rw [← j3.1.1]; exact j3.1.2.2.1) (by rw [← j3.1.2.1]; exact j3.1.2.2.2) j4.2.1.2.1 j3.2.1.2.1 j3.2.2.1.2.1 j4.2.2.1.2.1 j3.2.2.2.1.2.1 j8.2.2.1 (fun j hj => by have h := j4.2.1.2.2 j (by rw [j3.1.1]; exact hj); rw [← h.1]; exact h.2) (fun j hj => by have h := j3.2.2.1.2.2 j (by rw [j3.1.2.1]; exact hj); rw [← h.1]; exact h.2) (xz_sm xs _) (xz_sm xs _)) [63, 65, 66, 67, 68, 69, 93, 94] rfl rfl 63 rfl rfl rfl (Nat.le_of_ble_eq_true rfl) ⟨Nat.le_of_ble_eq_true rfl, Nat.le_of_ble_eq_true rfl⟩ ⟨Nat.le_of_ble_eq_true rfl, Nat.le_of_ble_eq_true rfl⟩ (fun u9 => rfl) (fun u9 => by simp only [lawW, wput, List.zip_cons_cons, List.zip_nil_right, List.foldl_cons, List.foldl_nil, List.set_cons_succ, List.set_cons_zero, up, reduceIte, Nat.reduceEqDiff, Nat.reduceSub]) (fun u9 => rfl) ?_
  rintro v hv
  exact V_icmp_same (pc := 617) 1337 C dL_law_617 (by decide) (e_cheap j3 j4 hu hv.1) (kk a (up (up g 7 u.2.1) 9 (up (g 9) 0 0)) (up (up (up G 13 (up (up (up (up (up (up (up (G 13) 0 (u.2.2.1 0)) 1 (u.2.2.1 1)) 2 (u.2.2.1 2)) 3 (u.2.2.1 3)) 4 (u.2.2.1 4)) 5 (u.2.2.1 5)) 6 (u.2.2.1 6))) 7 (up (G 7) 1 u.2.2.2)) 9 (up (up (G 9) 40 v.2.1) 41 v.2.2)) ⟨j1, j2, j3, j4, j5, j5', j6, j7, ⟨j8.1, j8.2.1, hv.2, j8.2.2.2⟩, j10⟩)
set_option maxRecDepth 100000 in
set_option maxHeartbeats 4000000 in
theorem law_cheapestBy {p : Program} {l : Launch} {e : Env} {s : State} {m : MethodId} {args : Array Value} {below : List Frame} {meth : Method} {c : Code} {A : Nat → Prop} {D : va_G} {d : Nat → ClassId} {Q : State → Prop} {bs L : Nat} {xs : Nat → Int32} {b : Nat → Nat} {a : Nat → Nat → Nat} {sl rw : Nat → Option Nat} {g : Nat → Nat → Int} {G : Nat → Nat → Int → Int} {i : Int} (C : CX p s m args c D d cL_law 4 RL) (X : SX s A bs L xs) (hi : 0 ≤ i ∧ i + 5 < L) (hJ : JJ b a sl rw g G)
    (kk : ∀ (a' : Nat → Nat → Nat) (g' : Nat → Nat → Int) (G' : Nat → Nat → Int → Int), JJ b a' sl rw g' G' → V p l e room_1 s m args below meth c A D Q 4 98 19494 (lawW d b a' sl rw g' G') [(3, .int (iI i)), (2, .ref (b 9)), (1, .ref (b 8)), (0, .ref bs)] 1337 []) : V p l e room_1 s m args below meth c A D Q 4 98 19494 (lawW d b a sl rw g G) [(3, .int (iI i)), (2, .ref (b 9)), (1, .ref (b 8)), (0, .ref bs)] 622 [] := by
  obtain ⟨j1, j2, j3, j4, j5, j5', j6, j7, j8, j10⟩ := hJ
  refine V_aload_n (pc := 622) C dL_law_622 rfl 2 rfl ?_
  refine V_aload_n (pc := 623) C dL_law_623 rfl 3 rfl ?_
  refine V_iload_n (pc := 624) C dL_law_624 rfl 0 rfl ?_
  refine V_iconst (pc := 625) C dL_law_625 ?_
  refine V_iadd (pc := 626) C dL_law_626 ?_
  refine V_sld (pc := 627) X C dL_law_627 (by omega) (by omega) ?_
  refine V_aload_n (pc := 628) C dL_law_628 rfl 3 rfl ?_
  refine V_iload_n (pc := 629) C dL_law_629 rfl 0 rfl ?_
  refine V_iconst (pc := 630) C dL_law_630 ?_
  refine V_iadd (pc := 631) C dL_law_631 ?_
  refine V_sld (pc := 632) X C dL_law_632 (by omega) (by omega) ?_
  refine V_aload_n (pc := 633) C dL_law_633 rfl 3 rfl ?_
  refine V_iload_n (pc := 634) C dL_law_634 rfl 0 rfl ?_
  refine V_iconst (pc := 635) C dL_law_635 ?_
  refine V_iadd (pc := 636) C dL_law_636 ?_
  refine V_sld (pc := 637) X C dL_law_637 (by omega) (by omega) ?_
  refine cv_L_77 (pc := 638) (rest := []) (wn := fun u9 => lawW d b a sl rw (up g 7 u9.2.1) (up (up G 13 (up (up (up (up (up (up (up (G 13) 0 (u9.2.2.1 0)) 1 (u9.2.2.1 1)) 2 (u9.2.2.1 2)) 3 (u9.2.2.1 3)) 4 (u9.2.2.1 4)) 5 (u9.2.2.1 5)) 6 (u9.2.2.1 6))) 7 (up (up (G 7) 1 u9.2.2.2.1) 2 u9.2.2.2.2))) (sn := fun u9 => [.int (iI (u9.1))]) C dL_law_638 (c_X8_cheapestBy l D d (b 8) (a 8) (g 8) (a 6) (g 6) (a 5) (g 5) (a 7) (g 7) rw (a 13) (G 13 0) (G 13 1) (G 13 2) (G 13 3) (G 13 4) (G 13 5) (G 13 6) (G 7 1) (G 7 2) (G 6 1) (G 6 3) (G 6 4) (G 5 0) (G 5 1) (xz xs (i + 1)) (xz xs (i + 2)) (xz xs (i + 3)) j3.1.2.2.1 j3.1.2.2.2 j3.2.1.1 j3.2.2.2.1.1 j3.2.2.1.1 j4.2.1.1 j4.2.2.1.1 (fun j hj => (j4.2.1.2.2 j hj).2) (fun j hj => (j3.2.2.1.2.2 j hj).2) j10.2.2 (xz_sm xs _) (xz_sm xs _) (xz_sm xs _)) [0, 4, 6, 8, 9, 18, 19, 20, 40, 41, 42, 43, 44, 45, 46, 47, 48, 49, 50] rfl rfl 0 rfl rfl rfl (Nat.le_of_ble_eq_true rfl) ⟨Nat.le_of_ble_eq_true rfl, Nat.le_of_ble_eq_true rfl⟩ ⟨Nat.le_of_ble_eq_true rfl, Nat.le_of_ble_eq_true rfl⟩ (fun u9 => rfl) (fun u9 => by simp only [lawW, wput, List.zip_cons_cons, List.zip_nil_right, List.foldl_cons, List.foldl_nil, List.set_cons_succ, List.set_cons_zero, up, reduceIte, Nat.reduceEqDiff, Nat.reduceSub]) (fun u9 => rfl) ?_
  rintro u hu
  refine V_aload_n (pc := 641) C dL_law_641 rfl 1 rfl ?_
  refine V_aload_n (pc := 642) C dL_law_642 rfl 3 rfl ?_
  refine V_iload_n (pc := 643) C dL_law_643 rfl 0 rfl ?_
  refine V_iconst (pc := 644) C dL_law_644 ?_
  refine V_iadd (pc := 645) C dL_law_645 ?_
  refine V_sld (pc := 646) X C dL_law_646 (by omega) (by omega) ?_
  refine V_aload_n (pc := 647) C dL_law_647 rfl 3 rfl ?_
  refine V_iload_n (pc := 648) C dL_law_648 rfl 0 rfl ?_
  refine V_iconst (pc := 649) C dL_law_649 ?_
  refine V_iadd (pc := 650) C dL_law_650 ?_
  refine V_sld (pc := 651) X C dL_law_651 (by omega) (by omega) ?_
  refine V_aload_n (pc := 652) C dL_law_652 rfl 3 rfl ?_
  refine V_iload_n (pc := 653) C dL_law_653 rfl 0 rfl ?_
  refine V_iconst (pc := 654) C dL_law_654 ?_
  refine V_iadd (pc := 655) C dL_law_655 ?_
  refine V_sld (pc := 656) X C dL_law_656 (by omega) (by omega) ?_
  refine cv_L_80 (pc := 657) (rest := [.int (iI (u.1))]) (wn := fun u9 => lawW d b a sl rw (up (up g 7 u.2.1) 9 (up (g 9) 0 0)) (up (up (up G 13 (up (up (up (up (up (up (up (G 13) 0 (u.2.2.1 0)) 1 (u.2.2.1 1)) 2 (u.2.2.1 2)) 3 (u.2.2.1 3)) 4 (u.2.2.1 4)) 5 (u.2.2.1 5)) 6 (u.2.2.1 6))) 7 (up (up (G 7) 1 u.2.2.2.1) 2 u.2.2.2.2)) 9 (up (up (G 9) 40 u9.2.1) 41 u9.2.2))) (sn := fun u9 => [.int (iI (u9.1)), .int (iI (u.1))]) C dL_law_657 (c_X9_cheapestBy l D d (b 9) (a 9) (g 9) (G 9 6) (G 9 7) (G 9 8) (G 9 9) (G 9 10) (G 9 40) (G 9 41) (xz xs (i + 1)) (xz xs (i + 2)) (xz xs (i + 3)) (by rw [← j3.1.1]; exact j3.1.2.2.1) (by rw [← j3.1.2.1]; exact j3.1.2.2.2) j4.2.1.2.1 j3.2.1.2.1 j3.2.2.1.2.1 j4.2.2.1.2.1 j3.2.2.2.1.2.1 j8.2.2.1 (fun j hj => by have h := j4.2.1.2.2 j (by rw [j3.1.1]; exact hj); rw [← h.1]; exact h.2) (fun j hj => by have h := j3.2.2.1.2.2 j (by rw [j3.1.2.1]; exact hj); rw [← h.1]; exact h.2) (xz_sm xs _) (xz_sm xs _) (xz_sm xs _)) [63, 65, 66, 67, 68, 69, 93, 94] rfl rfl 63 rfl rfl rfl (Nat.le_of_ble_eq_true rfl) ⟨Nat.le_of_ble_eq_true rfl, Nat.le_of_ble_eq_true rfl⟩ ⟨Nat.le_of_ble_eq_true rfl, Nat.le_of_ble_eq_true rfl⟩ (fun u9 => rfl) (fun u9 => by simp only [lawW, wput, List.zip_cons_cons, List.zip_nil_right, List.foldl_cons, List.foldl_nil, List.set_cons_succ, List.set_cons_zero, up, reduceIte, Nat.reduceEqDiff, Nat.reduceSub]) (fun u9 => rfl) ?_
  rintro v hv
  exact V_icmp_same (pc := 660) 1337 C dL_law_660 (by decide) (e_cheapBy j3 j4 hu hv.1) (kk a (up (up g 7 u.2.1) 9 (up (g 9) 0 0)) (up (up (up G 13 (up (up (up (up (up (up (up (G 13) 0 (u.2.2.1 0)) 1 (u.2.2.1 1)) 2 (u.2.2.1 2)) 3 (u.2.2.1 3)) 4 (u.2.2.1 4)) 5 (u.2.2.1 5)) 6 (u.2.2.1 6))) 7 (up (up (G 7) 1 u.2.2.2.1) 2 u.2.2.2.2)) 9 (up (up (G 9) 40 v.2.1) 41 v.2.2)) ⟨j1, j2, j3, j4, j5, j5', j6, j7, ⟨j8.1, j8.2.1, hv.2, j8.2.2.2⟩, j10⟩)
set_option maxRecDepth 100000 in
set_option maxHeartbeats 4000000 in
theorem law_exchange {p : Program} {l : Launch} {e : Env} {s : State} {m : MethodId} {args : Array Value} {below : List Frame} {meth : Method} {c : Code} {A : Nat → Prop} {D : va_G} {d : Nat → ClassId} {Q : State → Prop} {bs L : Nat} {xs : Nat → Int32} {b : Nat → Nat} {a : Nat → Nat → Nat} {sl rw : Nat → Option Nat} {g : Nat → Nat → Int} {G : Nat → Nat → Int → Int} {i : Int} (C : CX p s m args c D d cL_law 4 RL) (X : SX s A bs L xs) (hi : 0 ≤ i ∧ i + 5 < L) (hJ : JJ b a sl rw g G)
    (kk : ∀ (a' : Nat → Nat → Nat) (g' : Nat → Nat → Int) (G' : Nat → Nat → Int → Int), JJ b a' sl rw g' G' → V p l e room_1 s m args below meth c A D Q 4 98 19494 (lawW d b a' sl rw g' G') [(3, .int (iI i)), (2, .ref (b 9)), (1, .ref (b 8)), (0, .ref bs)] 1337 []) : V p l e room_1 s m args below meth c A D Q 4 98 19494 (lawW d b a sl rw g G) [(3, .int (iI i)), (2, .ref (b 9)), (1, .ref (b 8)), (0, .ref bs)] 665 [] := by
  obtain ⟨j1, j2, j3, j4, j5, j5', j6, j7, j8, j10⟩ := hJ
  refine V_aload_n (pc := 665) C dL_law_665 rfl 2 rfl ?_
  refine V_aload_n (pc := 666) C dL_law_666 rfl 3 rfl ?_
  refine V_iload_n (pc := 667) C dL_law_667 rfl 0 rfl ?_
  refine V_iconst (pc := 668) C dL_law_668 ?_
  refine V_iadd (pc := 669) C dL_law_669 ?_
  refine V_sld (pc := 670) X C dL_law_670 (by omega) (by omega) ?_
  refine V_aload_n (pc := 671) C dL_law_671 rfl 3 rfl ?_
  refine V_iload_n (pc := 672) C dL_law_672 rfl 0 rfl ?_
  refine V_iconst (pc := 673) C dL_law_673 ?_
  refine V_iadd (pc := 674) C dL_law_674 ?_
  refine V_sld (pc := 675) X C dL_law_675 (by omega) (by omega) ?_
  refine V_aload_n (pc := 676) C dL_law_676 rfl 3 rfl ?_
  refine V_iload_n (pc := 677) C dL_law_677 rfl 0 rfl ?_
  refine V_iconst (pc := 678) C dL_law_678 ?_
  refine V_iadd (pc := 679) C dL_law_679 ?_
  refine V_sld (pc := 680) X C dL_law_680 (by omega) (by omega) ?_
  refine V_aload_n (pc := 681) C dL_law_681 rfl 3 rfl ?_
  refine V_iload_n (pc := 682) C dL_law_682 rfl 0 rfl ?_
  refine V_iconst (pc := 683) C dL_law_683 ?_
  refine V_iadd (pc := 684) C dL_law_684 ?_
  refine V_sld (pc := 685) X C dL_law_685 (by omega) (by omega) ?_
  refine V_aload_n (pc := 686) C dL_law_686 rfl 3 rfl ?_
  refine V_iload_n (pc := 687) C dL_law_687 rfl 0 rfl ?_
  refine V_iconst (pc := 688) C dL_law_688 ?_
  refine V_iadd (pc := 689) C dL_law_689 ?_
  refine V_sld (pc := 690) X C dL_law_690 (by omega) (by omega) ?_
  refine cv_L_81 (pc := 691) (rest := []) (wn := fun u9 => lawW d b a sl rw (up g 0 (up (g 0) 5 u9.2.1)) (up G 0 (up (up (up (up (up (G 0) 0 u9.2.2.1) 1 u9.2.2.2.1) 2 u9.2.2.2.2.1) 3 u9.2.2.2.2.2.1) 4 u9.2.2.2.2.2.2))) (sn := fun u9 => [.int (iI (u9.1))]) C dL_law_691 (c_X8_exchange l D d (b 8) (a 8) (g 8) (a 0) (g 0) (G 0 0) (G 0 1) (G 0 2) (G 0 3) (G 0 4) (xz xs (i + 1)) (xz xs (i + 2)) (xz xs (i + 3)) (xz xs (i + 4)) (xz xs (i + 5)) j6.1.2 (xz_sm xs _) (xz_sm xs _) (xz_sm xs _) (xz_sm xs _) (xz_sm xs _)) [0, 51, 52, 53, 54, 55, 56] rfl rfl 0 rfl rfl rfl (Nat.le_of_ble_eq_true rfl) ⟨Nat.le_of_ble_eq_true rfl, Nat.le_of_ble_eq_true rfl⟩ ⟨Nat.le_of_ble_eq_true rfl, Nat.le_of_ble_eq_true rfl⟩ (fun u9 => rfl) (fun u9 => by simp only [lawW, wput, List.zip_cons_cons, List.zip_nil_right, List.foldl_cons, List.foldl_nil, List.set_cons_succ, List.set_cons_zero, up, reduceIte, Nat.reduceEqDiff, Nat.reduceSub]) (fun u9 => rfl) ?_
  rintro u hu
  refine V_aload_n (pc := 694) C dL_law_694 rfl 1 rfl ?_
  refine V_aload_n (pc := 695) C dL_law_695 rfl 3 rfl ?_
  refine V_iload_n (pc := 696) C dL_law_696 rfl 0 rfl ?_
  refine V_iconst (pc := 697) C dL_law_697 ?_
  refine V_iadd (pc := 698) C dL_law_698 ?_
  refine V_sld (pc := 699) X C dL_law_699 (by omega) (by omega) ?_
  refine V_aload_n (pc := 700) C dL_law_700 rfl 3 rfl ?_
  refine V_iload_n (pc := 701) C dL_law_701 rfl 0 rfl ?_
  refine V_iconst (pc := 702) C dL_law_702 ?_
  refine V_iadd (pc := 703) C dL_law_703 ?_
  refine V_sld (pc := 704) X C dL_law_704 (by omega) (by omega) ?_
  refine V_aload_n (pc := 705) C dL_law_705 rfl 3 rfl ?_
  refine V_iload_n (pc := 706) C dL_law_706 rfl 0 rfl ?_
  refine V_iconst (pc := 707) C dL_law_707 ?_
  refine V_iadd (pc := 708) C dL_law_708 ?_
  refine V_sld (pc := 709) X C dL_law_709 (by omega) (by omega) ?_
  refine V_aload_n (pc := 710) C dL_law_710 rfl 3 rfl ?_
  refine V_iload_n (pc := 711) C dL_law_711 rfl 0 rfl ?_
  refine V_iconst (pc := 712) C dL_law_712 ?_
  refine V_iadd (pc := 713) C dL_law_713 ?_
  refine V_sld (pc := 714) X C dL_law_714 (by omega) (by omega) ?_
  refine V_aload_n (pc := 715) C dL_law_715 rfl 3 rfl ?_
  refine V_iload_n (pc := 716) C dL_law_716 rfl 0 rfl ?_
  refine V_iconst (pc := 717) C dL_law_717 ?_
  refine V_iadd (pc := 718) C dL_law_718 ?_
  refine V_sld (pc := 719) X C dL_law_719 (by omega) (by omega) ?_
  refine cv_L_85 (pc := 720) (rest := [.int (iI (u.1))]) (wn := fun u9 => lawW d b a sl rw (up (up g 0 (up (g 0) 5 u.2.1)) 9 (up (up (g 9) 0 0) 26 u9.2.1)) (up (up G 0 (up (up (up (up (up (G 0) 0 u.2.2.1) 1 u.2.2.2.1) 2 u.2.2.2.2.1) 3 u.2.2.2.2.2.1) 4 u.2.2.2.2.2.2)) 9 (up (up (up (up (up (G 9) 27 u9.2.2.1) 28 u9.2.2.2.1) 29 u9.2.2.2.2.1) 30 u9.2.2.2.2.2.1) 31 u9.2.2.2.2.2.2))) (sn := fun u9 => [.int (iI (u9.1)), .int (iI (u.1))]) C dL_law_720 (c_X9_exchange l D d (b 9) (a 9) (g 9) (G 9 27) (G 9 28) (G 9 29) (G 9 30) (G 9 31) (xz xs (i + 1)) (xz xs (i + 2)) (xz xs (i + 3)) (xz xs (i + 4)) (xz xs (i + 5)) (by rw [← j6.1.1]; exact j6.1.2) (xz_sm xs _) (xz_sm xs _) (xz_sm xs _) (xz_sm xs _) (xz_sm xs _)) [63, 81, 82, 83, 84, 85] rfl rfl 63 rfl rfl rfl (Nat.le_of_ble_eq_true rfl) ⟨Nat.le_of_ble_eq_true rfl, Nat.le_of_ble_eq_true rfl⟩ ⟨Nat.le_of_ble_eq_true rfl, Nat.le_of_ble_eq_true rfl⟩ (fun u9 => rfl) (fun u9 => by simp only [lawW, wput, List.zip_cons_cons, List.zip_nil_right, List.foldl_cons, List.foldl_nil, List.set_cons_succ, List.set_cons_zero, up, reduceIte, Nat.reduceEqDiff, Nat.reduceSub]) (fun u9 => rfl) ?_
  rintro v hv
  have key := s_exchange j6 hu hv
  exact V_icmp_same (pc := 723) 1337 C dL_law_723 (by decide) (key.1) (kk a (up (up g 0 (up (g 0) 5 u.2.1)) 9 (up (up (g 9) 0 0) 26 v.2.1)) (up (up G 0 (up (up (up (up (up (G 0) 0 u.2.2.1) 1 u.2.2.2.1) 2 u.2.2.2.2.1) 3 u.2.2.2.2.2.1) 4 u.2.2.2.2.2.2)) 9 (up (up (up (up (up (G 9) 27 v.2.2.1) 28 v.2.2.2.1) 29 v.2.2.2.2.1) 30 v.2.2.2.2.2.1) 31 v.2.2.2.2.2.2)) ⟨j1, j2, j3, j4, j5, j5', key.2, j7, j8, j10⟩)
set_option maxRecDepth 100000 in
set_option maxHeartbeats 4000000 in
theorem law_unchange {p : Program} {l : Launch} {e : Env} {s : State} {m : MethodId} {args : Array Value} {below : List Frame} {meth : Method} {c : Code} {A : Nat → Prop} {D : va_G} {d : Nat → ClassId} {Q : State → Prop} {bs L : Nat} {xs : Nat → Int32} {b : Nat → Nat} {a : Nat → Nat → Nat} {sl rw : Nat → Option Nat} {g : Nat → Nat → Int} {G : Nat → Nat → Int → Int} {i : Int} (C : CX p s m args c D d cL_law 4 RL) (X : SX s A bs L xs) (hi : 0 ≤ i ∧ i + 5 < L) (hJ : JJ b a sl rw g G)
    (kk : ∀ (a' : Nat → Nat → Nat) (g' : Nat → Nat → Int) (G' : Nat → Nat → Int → Int), JJ b a' sl rw g' G' → V p l e room_1 s m args below meth c A D Q 4 98 19494 (lawW d b a' sl rw g' G') [(3, .int (iI i)), (2, .ref (b 9)), (1, .ref (b 8)), (0, .ref bs)] 1337 []) : V p l e room_1 s m args below meth c A D Q 4 98 19494 (lawW d b a sl rw g G) [(3, .int (iI i)), (2, .ref (b 9)), (1, .ref (b 8)), (0, .ref bs)] 728 [] := by
  obtain ⟨j1, j2, j3, j4, j5, j5', j6, j7, j8, j10⟩ := hJ
  refine V_aload_n (pc := 728) C dL_law_728 rfl 2 rfl ?_
  refine cv_L_86 (pc := 729) (rest := []) (wn := fun _ => lawW d b a sl rw (up g 0 (up (g 0) 5 0)) G) (sn := fun _ => [.int (iI ((g 0) 5))]) C dL_law_729 (c_X8_unchange l D d (b 8) (a 8) (g 8) (a 0) (g 0) ) [0, 51] rfl rfl 0 rfl rfl rfl (Nat.le_of_ble_eq_true rfl) ⟨Nat.le_of_ble_eq_true rfl, Nat.le_of_ble_eq_true rfl⟩ ⟨Nat.le_of_ble_eq_true rfl, Nat.le_of_ble_eq_true rfl⟩ (fun _ => rfl) (fun _ => by simp only [lawW, wput, List.zip_cons_cons, List.zip_nil_right, List.foldl_cons, List.foldl_nil, List.set_cons_succ, List.set_cons_zero, up, reduceIte, Nat.reduceEqDiff, Nat.reduceSub]) (fun _ => rfl) ?_
  intro _ _
  refine V_aload_n (pc := 732) C dL_law_732 rfl 1 rfl ?_
  refine cv_L_89 (pc := 733) (rest := [.int (iI ((g 0) 5))]) (wn := fun _ => lawW d b a sl rw (up (up g 0 (up (g 0) 5 0)) 9 (up (up (g 9) 0 0) 26 0)) G) (sn := fun _ => [.int (iI ((g 9) 26)), .int (iI ((g 0) 5))]) C dL_law_733 (c_X9_unchange l D d (b 9) (a 9) (g 9) ) [63] rfl rfl 63 rfl rfl rfl (Nat.le_of_ble_eq_true rfl) ⟨Nat.le_of_ble_eq_true rfl, Nat.le_of_ble_eq_true rfl⟩ ⟨Nat.le_of_ble_eq_true rfl, Nat.le_of_ble_eq_true rfl⟩ (fun _ => rfl) (fun _ => by simp only [lawW, wput, List.zip_cons_cons, List.zip_nil_right, List.foldl_cons, List.foldl_nil, List.set_cons_succ, List.set_cons_zero, up, reduceIte, Nat.reduceEqDiff, Nat.reduceSub]) (fun _ => rfl) ?_
  intro _ _
  exact V_icmp_same (pc := 736) 1337 C dL_law_736 (by decide) (j6.1.1) (kk a (up (up g 0 (up (g 0) 5 0)) 9 (up (up (g 9) 0 0) 26 0)) G ⟨j1, j2, j3, j4, j5, j5', s_unchange j6, j7, j8, j10⟩)
set_option maxRecDepth 100000 in
set_option maxHeartbeats 4000000 in
theorem law_ring {p : Program} {l : Launch} {e : Env} {s : State} {m : MethodId} {args : Array Value} {below : List Frame} {meth : Method} {c : Code} {A : Nat → Prop} {D : va_G} {d : Nat → ClassId} {Q : State → Prop} {bs L : Nat} {xs : Nat → Int32} {b : Nat → Nat} {a : Nat → Nat → Nat} {sl rw : Nat → Option Nat} {g : Nat → Nat → Int} {G : Nat → Nat → Int → Int} {i : Int} (C : CX p s m args c D d cL_law 4 RL) (X : SX s A bs L xs) (hi : 0 ≤ i ∧ i + 5 < L) (hJ : JJ b a sl rw g G)
    (kk : ∀ (a' : Nat → Nat → Nat) (g' : Nat → Nat → Int) (G' : Nat → Nat → Int → Int), JJ b a' sl rw g' G' → V p l e room_1 s m args below meth c A D Q 4 98 19494 (lawW d b a' sl rw g' G') [(3, .int (iI i)), (2, .ref (b 9)), (1, .ref (b 8)), (0, .ref bs)] 1337 []) : V p l e room_1 s m args below meth c A D Q 4 98 19494 (lawW d b a sl rw g G) [(3, .int (iI i)), (2, .ref (b 9)), (1, .ref (b 8)), (0, .ref bs)] 741 [] := by
  obtain ⟨j1, j2, j3, j4, j5, j5', j6, j7, j8, j10⟩ := hJ
  refine V_aload_n (pc := 741) C dL_law_741 rfl 2 rfl ?_
  refine V_aload_n (pc := 742) C dL_law_742 rfl 3 rfl ?_
  refine V_iload_n (pc := 743) C dL_law_743 rfl 0 rfl ?_
  refine V_iconst (pc := 744) C dL_law_744 ?_
  refine V_iadd (pc := 745) C dL_law_745 ?_
  refine V_sld (pc := 746) X C dL_law_746 (by omega) (by omega) ?_
  refine V_aload_n (pc := 747) C dL_law_747 rfl 3 rfl ?_
  refine V_iload_n (pc := 748) C dL_law_748 rfl 0 rfl ?_
  refine V_iconst (pc := 749) C dL_law_749 ?_
  refine V_iadd (pc := 750) C dL_law_750 ?_
  refine V_sld (pc := 751) X C dL_law_751 (by omega) (by omega) ?_
  refine V_bool (pc := 752) C (xz_sm xs _) dL_law_752 dL_law_755 dL_law_756 dL_law_759 (by decide) (by decide) (fun w1 hw1 => ?_)
  have h01 := bI_or hw1
  refine cv_L_90 (pc := 760) (rest := []) (wn := fun u9 => lawW d b a sl rw (up g 0 u9.2.1) (up G 0 (up (G 0) 6 u9.2.2))) (sn := fun u9 => [.long (lI u9.1)]) C dL_law_760 (c_X8_ring l D d (b 8) (a 8) (g 8) (a 6) (g 6) (a 5) (g 5) (a 0) (g 0) (G 5 0) (G 0 0) (G 0 1) (G 0 2) (G 0 3) (G 0 4) (G 0 6) (xz xs (i + 1)) w1 j3.1.2.2.1 j4.2.1.1 j6.2.2.1.1 j6.2.2.1.2.1 j6.2.2.1.2.2.1 j6.2.2.1.2.2.2.1 j6.2.2.1.2.2.2.2 j6.1.2 j6.2.2.2.1 (xz_sm xs _) h01) [0, 4, 18, 19, 51, 52, 53, 54, 55, 56, 57] rfl rfl 0 rfl rfl rfl (Nat.le_of_ble_eq_true rfl) ⟨Nat.le_of_ble_eq_true rfl, Nat.le_of_ble_eq_true rfl⟩ ⟨Nat.le_of_ble_eq_true rfl, Nat.le_of_ble_eq_true rfl⟩ (fun u9 => rfl) (fun u9 => by simp only [lawW, wput, List.zip_cons_cons, List.zip_nil_right, List.foldl_cons, List.foldl_nil, List.set_cons_succ, List.set_cons_zero, up, reduceIte, Nat.reduceEqDiff, Nat.reduceSub]) (fun u9 => rfl) ?_
  rintro u hu
  refine V_aload_n (pc := 763) C dL_law_763 rfl 1 rfl ?_
  refine V_aload_n (pc := 764) C dL_law_764 rfl 3 rfl ?_
  refine V_iload_n (pc := 765) C dL_law_765 rfl 0 rfl ?_
  refine V_iconst (pc := 766) C dL_law_766 ?_
  refine V_iadd (pc := 767) C dL_law_767 ?_
  refine V_sld (pc := 768) X C dL_law_768 (by omega) (by omega) ?_
  refine V_aload_n (pc := 769) C dL_law_769 rfl 3 rfl ?_
  refine V_iload_n (pc := 770) C dL_law_770 rfl 0 rfl ?_
  refine V_iconst (pc := 771) C dL_law_771 ?_
  refine V_iadd (pc := 772) C dL_law_772 ?_
  refine V_sld (pc := 773) X C dL_law_773 (by omega) (by omega) ?_
  refine V_bool (pc := 774) C (xz_sm xs _) dL_law_774 dL_law_777 dL_law_778 dL_law_781 (by decide) (by decide) (fun w2 hw2 => ?_)
  obtain rfl : w1 = w2 := hw1.trans hw2.symm
  refine cv_L_94 (pc := 782) (rest := [.long (lI u.1)]) (wn := fun u9 => lawW d b a sl rw (up (up g 0 u.2.1) 9 (up (up (up (up (g 9) 0 0) 44 u9.2.1) 45 u9.2.2.1) 46 u9.2.2.2.1)) (up (up G 0 (up (G 0) 6 u.2.2)) 9 (up (up (G 9) 42 u9.2.2.2.2.1) 43 u9.2.2.2.2.2))) (sn := fun u9 => [.long (lI u9.1), .long (lI u.1)]) C dL_law_782 (c_X9_ring l D d (b 9) (a 9) (g 9) (G 9 6) (G 9 27) (G 9 28) (G 9 29) (G 9 30) (G 9 31) (G 9 42) (G 9 43) (xz xs (i + 1)) w1 (by rw [← j3.1.1]; exact j3.1.2.2.1) j4.2.1.2.1 (by rw [← j6.2.1.1]; exact j6.2.2.1.1) (by rw [← j6.2.1.2.1]; exact j6.2.2.1.2.1) (by rw [← j6.2.1.2.2.1]; exact j6.2.2.1.2.2.1) (by rw [← j6.2.1.2.2.2.1]; exact j6.2.2.1.2.2.2.1) (by rw [← j6.2.1.2.2.2.2]; exact j6.2.2.1.2.2.2.2) j6.2.2.2.2.2 (by rw [← j6.1.1]; exact j6.1.2) (by rw [← j6.1.1, ← j6.2.1.1, ← j6.2.1.2.2.1, ← j6.2.1.2.2.2.2]; exact j6.2.2.2.1) (by rw [← j6.1.1, ← j6.2.1.1, ← j6.2.1.2.1]; exact j6.2.2.2.2.1) (xz_sm xs _) h01) [63, 65, 81, 82, 83, 84, 85, 95, 96] rfl rfl 63 rfl rfl rfl (Nat.le_of_ble_eq_true rfl) ⟨Nat.le_of_ble_eq_true rfl, Nat.le_of_ble_eq_true rfl⟩ ⟨Nat.le_of_ble_eq_true rfl, Nat.le_of_ble_eq_true rfl⟩ (fun u9 => rfl) (fun u9 => by simp only [lawW, wput, List.zip_cons_cons, List.zip_nil_right, List.foldl_cons, List.foldl_nil, List.set_cons_succ, List.set_cons_zero, up, reduceIte, Nat.reduceEqDiff, Nat.reduceSub]) (fun u9 => rfl) ?_
  rintro v hv
  have jr : J6 (u.2.1 5) (g 9 26) (G 0 0) (G 9 27) (G 0 1) (G 9 28) (G 0 2) (G 9 29) (G 0 3) (G 9 30) (G 0 4) (G 9 31) v.2.2.2.2.1 := by rw [hu.2]; exact s_42 j6 hv.2
  exact V_lcmp_same (pc := 785) 1337 C dL_law_785 dL_law_786 (by decide) (by rw [hu.1, hv.1]; exact e_ring j3.1.1 j4 j6) (kk a (up (up g 0 u.2.1) 9 (up (up (up (up (g 9) 0 0) 44 v.2.1) 45 v.2.2.1) 46 v.2.2.2.1)) (up (up G 0 (up (G 0) 6 u.2.2)) 9 (up (up (G 9) 42 v.2.2.2.2.1) 43 v.2.2.2.2.2)) ⟨j1, j2, j3, j4, j5, j5', jr, j7, j8, j10⟩)
set_option maxRecDepth 100000 in
set_option maxHeartbeats 4000000 in
theorem law_ringAt {p : Program} {l : Launch} {e : Env} {s : State} {m : MethodId} {args : Array Value} {below : List Frame} {meth : Method} {c : Code} {A : Nat → Prop} {D : va_G} {d : Nat → ClassId} {Q : State → Prop} {bs L : Nat} {xs : Nat → Int32} {b : Nat → Nat} {a : Nat → Nat → Nat} {sl rw : Nat → Option Nat} {g : Nat → Nat → Int} {G : Nat → Nat → Int → Int} {i : Int} (C : CX p s m args c D d cL_law 4 RL) (X : SX s A bs L xs) (hi : 0 ≤ i ∧ i + 5 < L) (hJ : JJ b a sl rw g G)
    (kk : ∀ (a' : Nat → Nat → Nat) (g' : Nat → Nat → Int) (G' : Nat → Nat → Int → Int), JJ b a' sl rw g' G' → V p l e room_1 s m args below meth c A D Q 4 98 19494 (lawW d b a' sl rw g' G') [(3, .int (iI i)), (2, .ref (b 9)), (1, .ref (b 8)), (0, .ref bs)] 1337 []) : V p l e room_1 s m args below meth c A D Q 4 98 19494 (lawW d b a sl rw g G) [(3, .int (iI i)), (2, .ref (b 9)), (1, .ref (b 8)), (0, .ref bs)] 791 [] := by
  obtain ⟨j1, j2, j3, j4, j5, j5', j6, j7, j8, j10⟩ := hJ
  refine V_aload_n (pc := 791) C dL_law_791 rfl 2 rfl ?_
  refine V_aload_n (pc := 792) C dL_law_792 rfl 3 rfl ?_
  refine V_iload_n (pc := 793) C dL_law_793 rfl 0 rfl ?_
  refine V_iconst (pc := 794) C dL_law_794 ?_
  refine V_iadd (pc := 795) C dL_law_795 ?_
  refine V_sld (pc := 796) X C dL_law_796 (by omega) (by omega) ?_
  refine V_aload_n (pc := 797) C dL_law_797 rfl 3 rfl ?_
  refine V_iload_n (pc := 798) C dL_law_798 rfl 0 rfl ?_
  refine V_iconst (pc := 799) C dL_law_799 ?_
  refine V_iadd (pc := 800) C dL_law_800 ?_
  refine V_sld (pc := 801) X C dL_law_801 (by omega) (by omega) ?_
  refine cv_L_95 (pc := 802) (rest := []) (wn := fun u9 => lawW d b a sl rw (up g 0 u9.2.1) (up G 0 (up (G 0) 6 u9.2.2))) (sn := fun u9 => [.int (iI (u9.1))]) C dL_law_802 (c_X8_ringAt l D d (b 8) (a 8) (g 8) (a 6) (g 6) (a 5) (g 5) (a 0) (g 0) (G 5 0) (G 0 0) (G 0 1) (G 0 2) (G 0 3) (G 0 4) (G 0 6) (xz xs (i + 1)) (xz xs (i + 2)) j3.1.2.2.1 j4.2.1.1 j6.2.2.1.1 j6.2.2.1.2.1 j6.2.2.1.2.2.1 j6.2.2.1.2.2.2.1 j6.2.2.1.2.2.2.2 j6.1.2 j6.2.2.2.1 (xz_sm xs _) (xz_sm xs _)) [0, 4, 18, 19, 51, 52, 53, 54, 55, 56, 57] rfl rfl 0 rfl rfl rfl (Nat.le_of_ble_eq_true rfl) ⟨Nat.le_of_ble_eq_true rfl, Nat.le_of_ble_eq_true rfl⟩ ⟨Nat.le_of_ble_eq_true rfl, Nat.le_of_ble_eq_true rfl⟩ (fun u9 => rfl) (fun u9 => by simp only [lawW, wput, List.zip_cons_cons, List.zip_nil_right, List.foldl_cons, List.foldl_nil, List.set_cons_succ, List.set_cons_zero, up, reduceIte, Nat.reduceEqDiff, Nat.reduceSub]) (fun u9 => rfl) ?_
  rintro u hu
  refine V_aload_n (pc := 805) C dL_law_805 rfl 1 rfl ?_
  refine V_aload_n (pc := 806) C dL_law_806 rfl 3 rfl ?_
  refine V_iload_n (pc := 807) C dL_law_807 rfl 0 rfl ?_
  refine V_iconst (pc := 808) C dL_law_808 ?_
  refine V_iadd (pc := 809) C dL_law_809 ?_
  refine V_sld (pc := 810) X C dL_law_810 (by omega) (by omega) ?_
  refine V_aload_n (pc := 811) C dL_law_811 rfl 3 rfl ?_
  refine V_iload_n (pc := 812) C dL_law_812 rfl 0 rfl ?_
  refine V_iconst (pc := 813) C dL_law_813 ?_
  refine V_iadd (pc := 814) C dL_law_814 ?_
  refine V_sld (pc := 815) X C dL_law_815 (by omega) (by omega) ?_
  refine cv_L_98 (pc := 816) (rest := [.int (iI (u.1))]) (wn := fun u9 => lawW d b a sl rw (up (up g 0 u.2.1) 9 (up (up (up (up (g 9) 0 0) 44 u9.2.1) 45 u9.2.2.1) 46 u9.2.2.2.1)) (up (up G 0 (up (G 0) 6 u.2.2)) 9 (up (up (G 9) 42 u9.2.2.2.2.1) 43 u9.2.2.2.2.2))) (sn := fun u9 => [.int (iI (u9.1)), .int (iI (u.1))]) C dL_law_816 (c_X9_ringAt l D d (b 9) (a 9) (g 9) (G 9 6) (G 9 27) (G 9 28) (G 9 29) (G 9 30) (G 9 31) (G 9 42) (G 9 43) (xz xs (i + 1)) (xz xs (i + 2)) (by rw [← j3.1.1]; exact j3.1.2.2.1) j4.2.1.2.1 (by rw [← j6.2.1.1]; exact j6.2.2.1.1) (by rw [← j6.2.1.2.1]; exact j6.2.2.1.2.1) (by rw [← j6.2.1.2.2.1]; exact j6.2.2.1.2.2.1) (by rw [← j6.2.1.2.2.2.1]; exact j6.2.2.1.2.2.2.1) (by rw [← j6.2.1.2.2.2.2]; exact j6.2.2.1.2.2.2.2) j6.2.2.2.2.2 (by rw [← j6.1.1]; exact j6.1.2) (by rw [← j6.1.1, ← j6.2.1.1, ← j6.2.1.2.2.1, ← j6.2.1.2.2.2.2]; exact j6.2.2.2.1) (by rw [← j6.1.1, ← j6.2.1.1, ← j6.2.1.2.1]; exact j6.2.2.2.2.1) (xz_sm xs _) (xz_sm xs _)) [63, 65, 81, 82, 83, 84, 85, 95, 96] rfl rfl 63 rfl rfl rfl (Nat.le_of_ble_eq_true rfl) ⟨Nat.le_of_ble_eq_true rfl, Nat.le_of_ble_eq_true rfl⟩ ⟨Nat.le_of_ble_eq_true rfl, Nat.le_of_ble_eq_true rfl⟩ (fun u9 => rfl) (fun u9 => by simp only [lawW, wput, List.zip_cons_cons, List.zip_nil_right, List.foldl_cons, List.foldl_nil, List.set_cons_succ, List.set_cons_zero, up, reduceIte, Nat.reduceEqDiff, Nat.reduceSub]) (fun u9 => rfl) ?_
  rintro v hv
  have jr : J6 (u.2.1 5) (g 9 26) (G 0 0) (G 9 27) (G 0 1) (G 9 28) (G 0 2) (G 9 29) (G 0 3) (G 9 30) (G 0 4) (G 9 31) v.2.2.2.2.1 := by rw [hu.2]; exact s_42 j6 hv.2
  exact V_icmp_same (pc := 819) 1337 C dL_law_819 (by decide) (by rw [hu.1, hv.1]; exact e_ringAt j3.1.1 j4 j6) (kk a (up (up g 0 u.2.1) 9 (up (up (up (up (g 9) 0 0) 44 v.2.1) 45 v.2.2.1) 46 v.2.2.2.1)) (up (up G 0 (up (G 0) 6 u.2.2)) 9 (up (up (G 9) 42 v.2.2.2.2.1) 43 v.2.2.2.2.2)) ⟨j1, j2, j3, j4, j5, j5', jr, j7, j8, j10⟩)
set_option maxRecDepth 100000 in
set_option maxHeartbeats 4000000 in
theorem law_come {p : Program} {l : Launch} {e : Env} {s : State} {m : MethodId} {args : Array Value} {below : List Frame} {meth : Method} {c : Code} {A : Nat → Prop} {D : va_G} {d : Nat → ClassId} {Q : State → Prop} {bs L : Nat} {xs : Nat → Int32} {b : Nat → Nat} {a : Nat → Nat → Nat} {sl rw : Nat → Option Nat} {g : Nat → Nat → Int} {G : Nat → Nat → Int → Int} {i : Int} (C : CX p s m args c D d cL_law 4 RL) (X : SX s A bs L xs) (hi : 0 ≤ i ∧ i + 5 < L) (hJ : JJ b a sl rw g G)
    (kk : ∀ (a' : Nat → Nat → Nat) (g' : Nat → Nat → Int) (G' : Nat → Nat → Int → Int), JJ b a' sl rw g' G' → V p l e room_1 s m args below meth c A D Q 4 98 19494 (lawW d b a' sl rw g' G') [(3, .int (iI i)), (2, .ref (b 9)), (1, .ref (b 8)), (0, .ref bs)] 1337 []) : V p l e room_1 s m args below meth c A D Q 4 98 19494 (lawW d b a sl rw g G) [(3, .int (iI i)), (2, .ref (b 9)), (1, .ref (b 8)), (0, .ref bs)] 824 [] := by
  obtain ⟨j1, j2, j3, j4, j5, j5', j6, j7, j8, j10⟩ := hJ
  refine V_aload_n (pc := 824) C dL_law_824 rfl 2 rfl ?_
  refine V_aload_n (pc := 825) C dL_law_825 rfl 3 rfl ?_
  refine V_iload_n (pc := 826) C dL_law_826 rfl 0 rfl ?_
  refine V_iconst (pc := 827) C dL_law_827 ?_
  refine V_iadd (pc := 828) C dL_law_828 ?_
  refine V_sld (pc := 829) X C dL_law_829 (by omega) (by omega) ?_
  refine V_aload_n (pc := 830) C dL_law_830 rfl 3 rfl ?_
  refine V_iload_n (pc := 831) C dL_law_831 rfl 0 rfl ?_
  refine V_iconst (pc := 832) C dL_law_832 ?_
  refine V_iadd (pc := 833) C dL_law_833 ?_
  refine V_sld (pc := 834) X C dL_law_834 (by omega) (by omega) ?_
  refine cv_L_99 (pc := 835) (rest := []) (wn := fun u9 => lawW d b a sl rw g (up G 6 (up (G 6) 2 u9.2))) (sn := fun u9 => [.int (iI (u9.1))]) C dL_law_835 (c_X8_come l D d (b 8) (a 8) (g 8) (a 6) (g 6) (G 6 2) (xz xs (i + 1)) (xz xs (i + 2)) j3.1.2.2.1 j3.2.2.2.2.1.1 (xz_sm xs _) (xz_sm xs _)) [0, 4, 7] rfl rfl 0 rfl rfl rfl (Nat.le_of_ble_eq_true rfl) ⟨Nat.le_of_ble_eq_true rfl, Nat.le_of_ble_eq_true rfl⟩ ⟨Nat.le_of_ble_eq_true rfl, Nat.le_of_ble_eq_true rfl⟩ (fun u9 => rfl) (fun u9 => by simp only [lawW, wput, List.zip_cons_cons, List.zip_nil_right, List.foldl_cons, List.foldl_nil, List.set_cons_succ, List.set_cons_zero, up, reduceIte, Nat.reduceEqDiff, Nat.reduceSub]) (fun u9 => rfl) ?_
  rintro u hu
  refine V_aload_n (pc := 838) C dL_law_838 rfl 1 rfl ?_
  refine V_aload_n (pc := 839) C dL_law_839 rfl 3 rfl ?_
  refine V_iload_n (pc := 840) C dL_law_840 rfl 0 rfl ?_
  refine V_iconst (pc := 841) C dL_law_841 ?_
  refine V_iadd (pc := 842) C dL_law_842 ?_
  refine V_sld (pc := 843) X C dL_law_843 (by omega) (by omega) ?_
  refine V_aload_n (pc := 844) C dL_law_844 rfl 3 rfl ?_
  refine V_iload_n (pc := 845) C dL_law_845 rfl 0 rfl ?_
  refine V_iconst (pc := 846) C dL_law_846 ?_
  refine V_iadd (pc := 847) C dL_law_847 ?_
  refine V_sld (pc := 848) X C dL_law_848 (by omega) (by omega) ?_
  refine cv_L_102 (pc := 849) (rest := [.int (iI (u.1))]) (wn := fun u9 => lawW d b a sl rw (up g 9 (up (g 9) 0 0)) (up (up G 6 (up (G 6) 2 u.2)) 9 (up (G 9) 11 u9.2))) (sn := fun u9 => [.int (iI (u9.1)), .int (iI (u.1))]) C dL_law_849 (c_X9_come l D d (b 9) (a 9) (g 9) (G 9 11) (xz xs (i + 1)) (xz xs (i + 2)) (by rw [← j3.1.1]; exact j3.1.2.2.1) j3.2.2.2.2.1.2.1 (xz_sm xs _) (xz_sm xs _)) [63, 70] rfl rfl 63 rfl rfl rfl (Nat.le_of_ble_eq_true rfl) ⟨Nat.le_of_ble_eq_true rfl, Nat.le_of_ble_eq_true rfl⟩ ⟨Nat.le_of_ble_eq_true rfl, Nat.le_of_ble_eq_true rfl⟩ (fun u9 => rfl) (fun u9 => by simp only [lawW, wput, List.zip_cons_cons, List.zip_nil_right, List.foldl_cons, List.foldl_nil, List.set_cons_succ, List.set_cons_zero, up, reduceIte, Nat.reduceEqDiff, Nat.reduceSub]) (fun u9 => rfl) ?_
  rintro v hv
  have key := s_come j3 hu hv
  exact V_icmp_same (pc := 852) 1337 C dL_law_852 (by decide) (key.1) (kk a (up g 9 (up (g 9) 0 0)) (up (up G 6 (up (G 6) 2 u.2)) 9 (up (G 9) 11 v.2)) ⟨j1, j2, key.2, j4, j5, j5', j6, j7, j8, j10⟩)
set_option maxRecDepth 100000 in
set_option maxHeartbeats 4000000 in
theorem law_earned {p : Program} {l : Launch} {e : Env} {s : State} {m : MethodId} {args : Array Value} {below : List Frame} {meth : Method} {c : Code} {A : Nat → Prop} {D : va_G} {d : Nat → ClassId} {Q : State → Prop} {bs L : Nat} {xs : Nat → Int32} {b : Nat → Nat} {a : Nat → Nat → Nat} {sl rw : Nat → Option Nat} {g : Nat → Nat → Int} {G : Nat → Nat → Int → Int} {i : Int} (C : CX p s m args c D d cL_law 4 RL) (X : SX s A bs L xs) (hi : 0 ≤ i ∧ i + 5 < L) (hJ : JJ b a sl rw g G)
    (kk : ∀ (a' : Nat → Nat → Nat) (g' : Nat → Nat → Int) (G' : Nat → Nat → Int → Int), JJ b a' sl rw g' G' → V p l e room_1 s m args below meth c A D Q 4 98 19494 (lawW d b a' sl rw g' G') [(3, .int (iI i)), (2, .ref (b 9)), (1, .ref (b 8)), (0, .ref bs)] 1337 []) : V p l e room_1 s m args below meth c A D Q 4 98 19494 (lawW d b a sl rw g G) [(3, .int (iI i)), (2, .ref (b 9)), (1, .ref (b 8)), (0, .ref bs)] 857 [] := by
  obtain ⟨j1, j2, j3, j4, j5, j5', j6, j7, j8, j10⟩ := hJ
  refine V_aload_n (pc := 857) C dL_law_857 rfl 2 rfl ?_
  refine V_aload_n (pc := 858) C dL_law_858 rfl 3 rfl ?_
  refine V_iload_n (pc := 859) C dL_law_859 rfl 0 rfl ?_
  refine V_iconst (pc := 860) C dL_law_860 ?_
  refine V_iadd (pc := 861) C dL_law_861 ?_
  refine V_sld (pc := 862) X C dL_law_862 (by omega) (by omega) ?_
  refine V_aload_n (pc := 863) C dL_law_863 rfl 3 rfl ?_
  refine V_iload_n (pc := 864) C dL_law_864 rfl 0 rfl ?_
  refine V_iconst (pc := 865) C dL_law_865 ?_
  refine V_iadd (pc := 866) C dL_law_866 ?_
  refine V_sld (pc := 867) X C dL_law_867 (by omega) (by omega) ?_
  refine V_aload_n (pc := 868) C dL_law_868 rfl 3 rfl ?_
  refine V_iload_n (pc := 869) C dL_law_869 rfl 0 rfl ?_
  refine V_iconst (pc := 870) C dL_law_870 ?_
  refine V_iadd (pc := 871) C dL_law_871 ?_
  refine V_sld (pc := 872) X C dL_law_872 (by omega) (by omega) ?_
  refine cv_L_103 (pc := 873) (rest := []) (wn := fun _ => lawW d b a sl rw g G) (sn := fun _ => [.int (iI (pEarned ((g 6) 6) (G 5 0) (G 6 2) (xz xs (i + 1)) (xz xs (i + 2)) (xz xs (i + 3))))]) C dL_law_873 (c_X8_earned l D d (b 8) (a 8) (g 8) (a 6) (g 6) (a 5) (g 5) (G 6 2) (G 5 0) (xz xs (i + 1)) (xz xs (i + 2)) (xz xs (i + 3)) j3.1.2.2.1 j3.2.2.2.2.1.1 j4.2.1.1 (xz_sm xs _) (xz_sm xs _) (xz_sm xs _)) [0, 4, 7, 18, 19] rfl rfl 0 rfl rfl rfl (Nat.le_of_ble_eq_true rfl) ⟨Nat.le_of_ble_eq_true rfl, Nat.le_of_ble_eq_true rfl⟩ ⟨Nat.le_of_ble_eq_true rfl, Nat.le_of_ble_eq_true rfl⟩ (fun _ => rfl) (fun _ => by simp only [lawW, wput, List.zip_cons_cons, List.zip_nil_right, List.foldl_cons, List.foldl_nil, List.set_cons_succ, List.set_cons_zero, up, reduceIte, Nat.reduceEqDiff, Nat.reduceSub]) (fun _ => rfl) ?_
  intro _ _
  refine V_aload_n (pc := 876) C dL_law_876 rfl 1 rfl ?_
  refine V_aload_n (pc := 877) C dL_law_877 rfl 3 rfl ?_
  refine V_iload_n (pc := 878) C dL_law_878 rfl 0 rfl ?_
  refine V_iconst (pc := 879) C dL_law_879 ?_
  refine V_iadd (pc := 880) C dL_law_880 ?_
  refine V_sld (pc := 881) X C dL_law_881 (by omega) (by omega) ?_
  refine V_aload_n (pc := 882) C dL_law_882 rfl 3 rfl ?_
  refine V_iload_n (pc := 883) C dL_law_883 rfl 0 rfl ?_
  refine V_iconst (pc := 884) C dL_law_884 ?_
  refine V_iadd (pc := 885) C dL_law_885 ?_
  refine V_sld (pc := 886) X C dL_law_886 (by omega) (by omega) ?_
  refine V_aload_n (pc := 887) C dL_law_887 rfl 3 rfl ?_
  refine V_iload_n (pc := 888) C dL_law_888 rfl 0 rfl ?_
  refine V_iconst (pc := 889) C dL_law_889 ?_
  refine V_iadd (pc := 890) C dL_law_890 ?_
  refine V_sld (pc := 891) X C dL_law_891 (by omega) (by omega) ?_
  refine cv_L_106 (pc := 892) (rest := [.int (iI (pEarned ((g 6) 6) (G 5 0) (G 6 2) (xz xs (i + 1)) (xz xs (i + 2)) (xz xs (i + 3))))]) (wn := fun _ => lawW d b a sl rw (up g 9 (up (g 9) 0 0)) G) (sn := fun _ => [.int (iI (pEarned ((g 9) 4) (G 9 6) (G 9 11) (xz xs (i + 1)) (xz xs (i + 2)) (xz xs (i + 3)))), .int (iI (pEarned ((g 6) 6) (G 5 0) (G 6 2) (xz xs (i + 1)) (xz xs (i + 2)) (xz xs (i + 3))))]) C dL_law_892 (c_X9_earned l D d (b 9) (a 9) (g 9) (G 9 6) (G 9 11) (xz xs (i + 1)) (xz xs (i + 2)) (xz xs (i + 3)) (by rw [← j3.1.1]; exact j3.1.2.2.1) j4.2.1.2.1 j3.2.2.2.2.1.2.1 (xz_sm xs _) (xz_sm xs _) (xz_sm xs _)) [63, 65, 70] rfl rfl 63 rfl rfl rfl (Nat.le_of_ble_eq_true rfl) ⟨Nat.le_of_ble_eq_true rfl, Nat.le_of_ble_eq_true rfl⟩ ⟨Nat.le_of_ble_eq_true rfl, Nat.le_of_ble_eq_true rfl⟩ (fun _ => rfl) (fun _ => by simp only [lawW, wput, List.zip_cons_cons, List.zip_nil_right, List.foldl_cons, List.foldl_nil, List.set_cons_succ, List.set_cons_zero, up, reduceIte, Nat.reduceEqDiff, Nat.reduceSub]) (fun _ => rfl) ?_
  intro _ _
  exact V_icmp_same (pc := 895) 1337 C dL_law_895 (by decide) (e_earned j3 j4) (kk a (up g 9 (up (g 9) 0 0)) G ⟨j1, j2, j3, j4, j5, j5', j6, j7, j8, j10⟩)
set_option maxRecDepth 100000 in
set_option maxHeartbeats 4000000 in
theorem law_ask {p : Program} {l : Launch} {e : Env} {s : State} {m : MethodId} {args : Array Value} {below : List Frame} {meth : Method} {c : Code} {A : Nat → Prop} {D : va_G} {d : Nat → ClassId} {Q : State → Prop} {bs L : Nat} {xs : Nat → Int32} {b : Nat → Nat} {a : Nat → Nat → Nat} {sl rw : Nat → Option Nat} {g : Nat → Nat → Int} {G : Nat → Nat → Int → Int} {i : Int} (C : CX p s m args c D d cL_law 4 RL) (X : SX s A bs L xs) (hi : 0 ≤ i ∧ i + 5 < L) (hJ : JJ b a sl rw g G)
    (kk : ∀ (a' : Nat → Nat → Nat) (g' : Nat → Nat → Int) (G' : Nat → Nat → Int → Int), JJ b a' sl rw g' G' → V p l e room_1 s m args below meth c A D Q 4 98 19494 (lawW d b a' sl rw g' G') [(3, .int (iI i)), (2, .ref (b 9)), (1, .ref (b 8)), (0, .ref bs)] 1337 []) : V p l e room_1 s m args below meth c A D Q 4 98 19494 (lawW d b a sl rw g G) [(3, .int (iI i)), (2, .ref (b 9)), (1, .ref (b 8)), (0, .ref bs)] 900 [] := by
  obtain ⟨j1, j2, j3, j4, j5, j5', j6, j7, j8, j10⟩ := hJ
  refine V_aload_n (pc := 900) C dL_law_900 rfl 2 rfl ?_
  refine V_aload_n (pc := 901) C dL_law_901 rfl 3 rfl ?_
  refine V_iload_n (pc := 902) C dL_law_902 rfl 0 rfl ?_
  refine V_iconst (pc := 903) C dL_law_903 ?_
  refine V_iadd (pc := 904) C dL_law_904 ?_
  refine V_sld (pc := 905) X C dL_law_905 (by omega) (by omega) ?_
  refine V_aload_n (pc := 906) C dL_law_906 rfl 3 rfl ?_
  refine V_iload_n (pc := 907) C dL_law_907 rfl 0 rfl ?_
  refine V_iconst (pc := 908) C dL_law_908 ?_
  refine V_iadd (pc := 909) C dL_law_909 ?_
  refine V_sld (pc := 910) X C dL_law_910 (by omega) (by omega) ?_
  refine cv_L_107 (pc := 911) (rest := []) (wn := fun _ => lawW d b a sl rw g G) (sn := fun _ => [.int (iI (pAsk ((g 6) 6) (G 5 0) (G 6 2) (xz xs (i + 1)) (xz xs (i + 2))))]) C dL_law_911 (c_X8_ask l D d (b 8) (a 8) (g 8) (a 6) (g 6) (a 5) (g 5) (G 6 2) (G 5 0) (xz xs (i + 1)) (xz xs (i + 2)) j3.1.2.2.1 j3.2.2.2.2.1.1 j4.2.1.1 (xz_sm xs _) (xz_sm xs _)) [0, 4, 7, 18, 19] rfl rfl 0 rfl rfl rfl (Nat.le_of_ble_eq_true rfl) ⟨Nat.le_of_ble_eq_true rfl, Nat.le_of_ble_eq_true rfl⟩ ⟨Nat.le_of_ble_eq_true rfl, Nat.le_of_ble_eq_true rfl⟩ (fun _ => rfl) (fun _ => by simp only [lawW, wput, List.zip_cons_cons, List.zip_nil_right, List.foldl_cons, List.foldl_nil, List.set_cons_succ, List.set_cons_zero, up, reduceIte, Nat.reduceEqDiff, Nat.reduceSub]) (fun _ => rfl) ?_
  intro _ _
  refine V_aload_n (pc := 914) C dL_law_914 rfl 1 rfl ?_
  refine V_aload_n (pc := 915) C dL_law_915 rfl 3 rfl ?_
  refine V_iload_n (pc := 916) C dL_law_916 rfl 0 rfl ?_
  refine V_iconst (pc := 917) C dL_law_917 ?_
  refine V_iadd (pc := 918) C dL_law_918 ?_
  refine V_sld (pc := 919) X C dL_law_919 (by omega) (by omega) ?_
  refine V_aload_n (pc := 920) C dL_law_920 rfl 3 rfl ?_
  refine V_iload_n (pc := 921) C dL_law_921 rfl 0 rfl ?_
  refine V_iconst (pc := 922) C dL_law_922 ?_
  refine V_iadd (pc := 923) C dL_law_923 ?_
  refine V_sld (pc := 924) X C dL_law_924 (by omega) (by omega) ?_
  refine cv_L_110 (pc := 925) (rest := [.int (iI (pAsk ((g 6) 6) (G 5 0) (G 6 2) (xz xs (i + 1)) (xz xs (i + 2))))]) (wn := fun _ => lawW d b a sl rw (up g 9 (up (g 9) 0 0)) G) (sn := fun _ => [.int (iI (pAsk ((g 9) 4) (G 9 6) (G 9 11) (xz xs (i + 1)) (xz xs (i + 2)))), .int (iI (pAsk ((g 6) 6) (G 5 0) (G 6 2) (xz xs (i + 1)) (xz xs (i + 2))))]) C dL_law_925 (c_X9_ask l D d (b 9) (a 9) (g 9) (G 9 6) (G 9 11) (xz xs (i + 1)) (xz xs (i + 2)) (by rw [← j3.1.1]; exact j3.1.2.2.1) j4.2.1.2.1 j3.2.2.2.2.1.2.1 (xz_sm xs _) (xz_sm xs _)) [63, 65, 70] rfl rfl 63 rfl rfl rfl (Nat.le_of_ble_eq_true rfl) ⟨Nat.le_of_ble_eq_true rfl, Nat.le_of_ble_eq_true rfl⟩ ⟨Nat.le_of_ble_eq_true rfl, Nat.le_of_ble_eq_true rfl⟩ (fun _ => rfl) (fun _ => by simp only [lawW, wput, List.zip_cons_cons, List.zip_nil_right, List.foldl_cons, List.foldl_nil, List.set_cons_succ, List.set_cons_zero, up, reduceIte, Nat.reduceEqDiff, Nat.reduceSub]) (fun _ => rfl) ?_
  intro _ _
  exact V_icmp_same (pc := 928) 1337 C dL_law_928 (by decide) (e_ask j3 j4) (kk a (up g 9 (up (g 9) 0 0)) G ⟨j1, j2, j3, j4, j5, j5', j6, j7, j8, j10⟩)
set_option maxRecDepth 100000 in
set_option maxHeartbeats 4000000 in
theorem law_keeper {p : Program} {l : Launch} {e : Env} {s : State} {m : MethodId} {args : Array Value} {below : List Frame} {meth : Method} {c : Code} {A : Nat → Prop} {D : va_G} {d : Nat → ClassId} {Q : State → Prop} {bs L : Nat} {xs : Nat → Int32} {b : Nat → Nat} {a : Nat → Nat → Nat} {sl rw : Nat → Option Nat} {g : Nat → Nat → Int} {G : Nat → Nat → Int → Int} {i : Int} (C : CX p s m args c D d cL_law 4 RL) (X : SX s A bs L xs) (hi : 0 ≤ i ∧ i + 5 < L) (hJ : JJ b a sl rw g G)
    (kk : ∀ (a' : Nat → Nat → Nat) (g' : Nat → Nat → Int) (G' : Nat → Nat → Int → Int), JJ b a' sl rw g' G' → V p l e room_1 s m args below meth c A D Q 4 98 19494 (lawW d b a' sl rw g' G') [(3, .int (iI i)), (2, .ref (b 9)), (1, .ref (b 8)), (0, .ref bs)] 1337 []) : V p l e room_1 s m args below meth c A D Q 4 98 19494 (lawW d b a sl rw g G) [(3, .int (iI i)), (2, .ref (b 9)), (1, .ref (b 8)), (0, .ref bs)] 933 [] := by
  obtain ⟨j1, j2, j3, j4, j5, j5', j6, j7, j8, j10⟩ := hJ
  refine V_aload_n (pc := 933) C dL_law_933 rfl 2 rfl ?_
  refine V_aload_n (pc := 934) C dL_law_934 rfl 3 rfl ?_
  refine V_iload_n (pc := 935) C dL_law_935 rfl 0 rfl ?_
  refine V_iconst (pc := 936) C dL_law_936 ?_
  refine V_iadd (pc := 937) C dL_law_937 ?_
  refine V_sld (pc := 938) X C dL_law_938 (by omega) (by omega) ?_
  refine V_aload_n (pc := 939) C dL_law_939 rfl 3 rfl ?_
  refine V_iload_n (pc := 940) C dL_law_940 rfl 0 rfl ?_
  refine V_iconst (pc := 941) C dL_law_941 ?_
  refine V_iadd (pc := 942) C dL_law_942 ?_
  refine V_sld (pc := 943) X C dL_law_943 (by omega) (by omega) ?_
  refine V_bool (pc := 944) C (xz_sm xs _) dL_law_944 dL_law_947 dL_law_948 dL_law_951 (by decide) (by decide) (fun w1 hw1 => ?_)
  have h01 := bI_or hw1
  refine cv_L_111 (pc := 952) (rest := []) (wn := fun u9 => lawW d b a sl rw (up g 6 (up (g 6) 9 u9.2)) G) (sn := fun u9 => [.int (iI (u9.1))]) C dL_law_952 (c_X8_keeper l D d (b 8) (a 8) (g 8) (a 6) (g 6) (xz xs (i + 1)) w1 j3.1.2.2.1 j3.2.2.2.2.2.1 (xz_sm xs _) h01) [0, 4] rfl rfl 0 rfl rfl rfl (Nat.le_of_ble_eq_true rfl) ⟨Nat.le_of_ble_eq_true rfl, Nat.le_of_ble_eq_true rfl⟩ ⟨Nat.le_of_ble_eq_true rfl, Nat.le_of_ble_eq_true rfl⟩ (fun u9 => rfl) (fun u9 => by simp only [lawW, wput, List.zip_cons_cons, List.zip_nil_right, List.foldl_cons, List.foldl_nil, List.set_cons_succ, List.set_cons_zero, up, reduceIte, Nat.reduceEqDiff, Nat.reduceSub]) (fun u9 => rfl) ?_
  rintro u hu
  refine V_aload_n (pc := 955) C dL_law_955 rfl 1 rfl ?_
  refine V_aload_n (pc := 956) C dL_law_956 rfl 3 rfl ?_
  refine V_iload_n (pc := 957) C dL_law_957 rfl 0 rfl ?_
  refine V_iconst (pc := 958) C dL_law_958 ?_
  refine V_iadd (pc := 959) C dL_law_959 ?_
  refine V_sld (pc := 960) X C dL_law_960 (by omega) (by omega) ?_
  refine V_aload_n (pc := 961) C dL_law_961 rfl 3 rfl ?_
  refine V_iload_n (pc := 962) C dL_law_962 rfl 0 rfl ?_
  refine V_iconst (pc := 963) C dL_law_963 ?_
  refine V_iadd (pc := 964) C dL_law_964 ?_
  refine V_sld (pc := 965) X C dL_law_965 (by omega) (by omega) ?_
  refine V_bool (pc := 966) C (xz_sm xs _) dL_law_966 dL_law_969 dL_law_970 dL_law_973 (by decide) (by decide) (fun w2 hw2 => ?_)
  obtain rfl : w1 = w2 := hw1.trans hw2.symm
  refine cv_L_115 (pc := 974) (rest := [.int (iI (u.1))]) (wn := fun u9 => lawW d b a sl rw (up (up g 6 (up (g 6) 9 u.2)) 9 (up (g 9) 0 0)) (up G 9 (up (G 9) 12 u9.2))) (sn := fun u9 => [.int (iI (u9.1)), .int (iI (u.1))]) C dL_law_974 (c_X9_keeper l D d (b 9) (a 9) (g 9) (G 9 12) (xz xs (i + 1)) w1 (by rw [← j3.1.1]; exact j3.1.2.2.1) j3.2.2.2.2.2.2.1 (xz_sm xs _) h01) [63, 71] rfl rfl 63 rfl rfl rfl (Nat.le_of_ble_eq_true rfl) ⟨Nat.le_of_ble_eq_true rfl, Nat.le_of_ble_eq_true rfl⟩ ⟨Nat.le_of_ble_eq_true rfl, Nat.le_of_ble_eq_true rfl⟩ (fun u9 => rfl) (fun u9 => by simp only [lawW, wput, List.zip_cons_cons, List.zip_nil_right, List.foldl_cons, List.foldl_nil, List.set_cons_succ, List.set_cons_zero, up, reduceIte, Nat.reduceEqDiff, Nat.reduceSub]) (fun u9 => rfl) ?_
  rintro v hv
  have key := s_keeper h01 j3 hu hv
  exact V_icmp_same (pc := 977) 1337 C dL_law_977 (by decide) (key.1) (kk a (up (up g 6 (up (g 6) 9 u.2)) 9 (up (g 9) 0 0)) (up G 9 (up (G 9) 12 v.2)) ⟨j1, j2, key.2, j4, j5, j5', j6, j7, j8, j10⟩)
set_option maxRecDepth 100000 in
set_option maxHeartbeats 4000000 in
theorem law_losers {p : Program} {l : Launch} {e : Env} {s : State} {m : MethodId} {args : Array Value} {below : List Frame} {meth : Method} {c : Code} {A : Nat → Prop} {D : va_G} {d : Nat → ClassId} {Q : State → Prop} {bs L : Nat} {xs : Nat → Int32} {b : Nat → Nat} {a : Nat → Nat → Nat} {sl rw : Nat → Option Nat} {g : Nat → Nat → Int} {G : Nat → Nat → Int → Int} {i : Int} (C : CX p s m args c D d cL_law 4 RL) (X : SX s A bs L xs) (hi : 0 ≤ i ∧ i + 5 < L) (hJ : JJ b a sl rw g G)
    (kk : ∀ (a' : Nat → Nat → Nat) (g' : Nat → Nat → Int) (G' : Nat → Nat → Int → Int), JJ b a' sl rw g' G' → V p l e room_1 s m args below meth c A D Q 4 98 19494 (lawW d b a' sl rw g' G') [(3, .int (iI i)), (2, .ref (b 9)), (1, .ref (b 8)), (0, .ref bs)] 1337 []) : V p l e room_1 s m args below meth c A D Q 4 98 19494 (lawW d b a sl rw g G) [(3, .int (iI i)), (2, .ref (b 9)), (1, .ref (b 8)), (0, .ref bs)] 982 [] := by
  obtain ⟨j1, j2, j3, j4, j5, j5', j6, j7, j8, j10⟩ := hJ
  refine V_aload_n (pc := 982) C dL_law_982 rfl 2 rfl ?_
  refine V_aload_n (pc := 983) C dL_law_983 rfl 3 rfl ?_
  refine V_iload_n (pc := 984) C dL_law_984 rfl 0 rfl ?_
  refine V_iconst (pc := 985) C dL_law_985 ?_
  refine V_iadd (pc := 986) C dL_law_986 ?_
  refine V_sld (pc := 987) X C dL_law_987 (by omega) (by omega) ?_
  refine cv_L_116 (pc := 988) (rest := []) (wn := fun _ => lawW d b a sl rw g G) (sn := fun _ => [.int (iI (pLosers ((g 6) 6) (G 5 0) (fun j => bitI ((g 6) 9) j) (xz xs (i + 1))))]) C dL_law_988 (c_X8_losers l D d (b 8) (a 8) (g 8) (a 6) (g 6) (a 5) (g 5) (G 5 0) (xz xs (i + 1)) j3.1.2.2.1 j3.2.2.2.2.2.1 j4.2.1.1 (xz_sm xs _)) [0, 4, 18, 19] rfl rfl 0 rfl rfl rfl (Nat.le_of_ble_eq_true rfl) ⟨Nat.le_of_ble_eq_true rfl, Nat.le_of_ble_eq_true rfl⟩ ⟨Nat.le_of_ble_eq_true rfl, Nat.le_of_ble_eq_true rfl⟩ (fun _ => rfl) (fun _ => by simp only [lawW, wput, List.zip_cons_cons, List.zip_nil_right, List.foldl_cons, List.foldl_nil, List.set_cons_succ, List.set_cons_zero, up, reduceIte, Nat.reduceEqDiff, Nat.reduceSub]) (fun _ => rfl) ?_
  intro _ _
  refine V_aload_n (pc := 991) C dL_law_991 rfl 1 rfl ?_
  refine V_aload_n (pc := 992) C dL_law_992 rfl 3 rfl ?_
  refine V_iload_n (pc := 993) C dL_law_993 rfl 0 rfl ?_
  refine V_iconst (pc := 994) C dL_law_994 ?_
  refine V_iadd (pc := 995) C dL_law_995 ?_
  refine V_sld (pc := 996) X C dL_law_996 (by omega) (by omega) ?_
  refine cv_L_119 (pc := 997) (rest := [.int (iI (pLosers ((g 6) 6) (G 5 0) (fun j => bitI ((g 6) 9) j) (xz xs (i + 1))))]) (wn := fun _ => lawW d b a sl rw (up g 9 (up (g 9) 0 0)) G) (sn := fun _ => [.int (iI (pLosers ((g 9) 4) (G 9 6) (G 9 12) (xz xs (i + 1)))), .int (iI (pLosers ((g 6) 6) (G 5 0) (fun j => bitI ((g 6) 9) j) (xz xs (i + 1))))]) C dL_law_997 (c_X9_losers l D d (b 9) (a 9) (g 9) (G 9 6) (G 9 12) (xz xs (i + 1)) (by rw [← j3.1.1]; exact j3.1.2.2.1) j4.2.1.2.1 j3.2.2.2.2.2.2.1 (xz_sm xs _)) [63, 65, 71] rfl rfl 63 rfl rfl rfl (Nat.le_of_ble_eq_true rfl) ⟨Nat.le_of_ble_eq_true rfl, Nat.le_of_ble_eq_true rfl⟩ ⟨Nat.le_of_ble_eq_true rfl, Nat.le_of_ble_eq_true rfl⟩ (fun _ => rfl) (fun _ => by simp only [lawW, wput, List.zip_cons_cons, List.zip_nil_right, List.foldl_cons, List.foldl_nil, List.set_cons_succ, List.set_cons_zero, up, reduceIte, Nat.reduceEqDiff, Nat.reduceSub]) (fun _ => rfl) ?_
  intro _ _
  exact V_icmp_same (pc := 1000) 1337 C dL_law_1000 (by decide) (e_losers j3 j4) (kk a (up g 9 (up (g 9) 0 0)) G ⟨j1, j2, j3, j4, j5, j5', j6, j7, j8, j10⟩)
