section
-- ===== PART A: goes FIRST, ahead of the names: the tables' words, and 'selects' of the private methods out of them =====
/-- a private method of a class that the tables say can be made, by its rows of tables_1 -/
def lw_okq (q : MethodName × Nat) : Prop := (q.1.cls ≠ "java/lang/invoke/MethodHandle" ∧ q.1.cls ≠ "java/lang/invoke/VarHandle") ∧ Cond.instantiable q.1.cls q.2 ∈ tables_1 ∧ Cond.privateMethod q.1 ∈ tables_1 ∧ Cond.instanceMethod q.1 ∈ tables_1
theorem lw_p0 : lw_okq (⟨"BuyersArm$Reader", "takes", "(ILBuyersArm$Told;)Z"⟩, 4) := ⟨⟨by decide +kernel, by decide +kernel⟩, List.mem_of_getElem? (i := 41) (by decide +kernel), List.mem_of_getElem? (i := 328) (by decide +kernel), List.mem_of_getElem? (i := 329) (by decide +kernel)⟩
theorem lw_p1 : lw_okq (⟨"BuyersArm$Reader", "opens", "(ILBuyersArm$Told;)Z"⟩, 4) := ⟨⟨by decide +kernel, by decide +kernel⟩, List.mem_of_getElem? (i := 41) (by decide +kernel), List.mem_of_getElem? (i := 332) (by decide +kernel), List.mem_of_getElem? (i := 333) (by decide +kernel)⟩
theorem lw_p2 : lw_okq (⟨"BuyersArm$Reader", "takesOfPerson", "(ILBuyersArm$Told;)Z"⟩, 4) := ⟨⟨by decide +kernel, by decide +kernel⟩, List.mem_of_getElem? (i := 41) (by decide +kernel), List.mem_of_getElem? (i := 336) (by decide +kernel), List.mem_of_getElem? (i := 337) (by decide +kernel)⟩
theorem lw_p3 : lw_okq (⟨"BuyersArm$Reader", "takesOfCounter", "(ILBuyersArm$Told;)Z"⟩, 4) := ⟨⟨by decide +kernel, by decide +kernel⟩, List.mem_of_getElem? (i := 41) (by decide +kernel), List.mem_of_getElem? (i := 340) (by decide +kernel), List.mem_of_getElem? (i := 341) (by decide +kernel)⟩
theorem lw_p4 : lw_okq (⟨"BuyersArm$Reader", "takesOfBar", "(ILBuyersArm$Told;)Z"⟩, 4) := ⟨⟨by decide +kernel, by decide +kernel⟩, List.mem_of_getElem? (i := 41) (by decide +kernel), List.mem_of_getElem? (i := 344) (by decide +kernel), List.mem_of_getElem? (i := 345) (by decide +kernel)⟩
theorem lw_p5 : lw_okq (⟨"BuyersArm", "spentBy", "(I)I"⟩, 10) := ⟨⟨by decide +kernel, by decide +kernel⟩, List.mem_of_getElem? (i := 16) (by decide +kernel), List.mem_of_getElem? (i := 382) (by decide +kernel), List.mem_of_getElem? (i := 383) (by decide +kernel)⟩
theorem lw_p6 : lw_okq (⟨"BuyersArm", "gotBy", "(I)I"⟩, 10) := ⟨⟨by decide +kernel, by decide +kernel⟩, List.mem_of_getElem? (i := 16) (by decide +kernel), List.mem_of_getElem? (i := 386) (by decide +kernel), List.mem_of_getElem? (i := 387) (by decide +kernel)⟩
theorem lw_p7 : lw_okq (⟨"BuyersArm$Want", "fill", "(IIII)V"⟩, 5) := ⟨⟨by decide +kernel, by decide +kernel⟩, List.mem_of_getElem? (i := 161) (by decide +kernel), List.mem_of_getElem? (i := 466) (by decide +kernel), List.mem_of_getElem? (i := 467) (by decide +kernel)⟩
theorem lw_p8 : lw_okq (⟨"BuyersArm$Exchanges", "follows", "(II)Z"⟩, 10) := ⟨⟨by decide +kernel, by decide +kernel⟩, List.mem_of_getElem? (i := 186) (by decide +kernel), List.mem_of_getElem? (i := 509) (by decide +kernel), List.mem_of_getElem? (i := 510) (by decide +kernel)⟩
theorem lw_p9 : lw_okq (⟨"BuyersArm$Exchanges", "offer", "(IIIII)V"⟩, 10) := ⟨⟨by decide +kernel, by decide +kernel⟩, List.mem_of_getElem? (i := 186) (by decide +kernel), List.mem_of_getElem? (i := 513) (by decide +kernel), List.mem_of_getElem? (i := 514) (by decide +kernel)⟩
theorem lw_p10 : lw_okq (⟨"BuyersArm$Exchanges", "got", "(II)J"⟩, 10) := ⟨⟨by decide +kernel, by decide +kernel⟩, List.mem_of_getElem? (i := 186) (by decide +kernel), List.mem_of_getElem? (i := 517) (by decide +kernel), List.mem_of_getElem? (i := 518) (by decide +kernel)⟩
theorem lw_p11 : lw_okq (⟨"BuyersArm$Exchanges", "paid", "(I)J"⟩, 10) := ⟨⟨by decide +kernel, by decide +kernel⟩, List.mem_of_getElem? (i := 186) (by decide +kernel), List.mem_of_getElem? (i := 521) (by decide +kernel), List.mem_of_getElem? (i := 522) (by decide +kernel)⟩
theorem lw_p12 : lw_okq (⟨"BuyersArm$Exchanges", "seekThird", "(III)V"⟩, 10) := ⟨⟨by decide +kernel, by decide +kernel⟩, List.mem_of_getElem? (i := 186) (by decide +kernel), List.mem_of_getElem? (i := 525) (by decide +kernel), List.mem_of_getElem? (i := 526) (by decide +kernel)⟩
theorem lw_p13 : lw_okq (⟨"BuyersArm", "broughtBy", "(III)I"⟩, 10) := ⟨⟨by decide +kernel, by decide +kernel⟩, List.mem_of_getElem? (i := 16) (by decide +kernel), List.mem_of_getElem? (i := 545) (by decide +kernel), List.mem_of_getElem? (i := 546) (by decide +kernel)⟩
theorem lw_p14 : lw_okq (⟨"BuyersArm", "losersBy", "(I)I"⟩, 10) := ⟨⟨by decide +kernel, by decide +kernel⟩, List.mem_of_getElem? (i := 16) (by decide +kernel), List.mem_of_getElem? (i := 562) (by decide +kernel), List.mem_of_getElem? (i := 563) (by decide +kernel)⟩
theorem lw_p15 : lw_okq (⟨"BuyersArm$Piece", "fewestTo", "(II[I)I"⟩, 3) := ⟨⟨by decide +kernel, by decide +kernel⟩, List.mem_of_getElem? (i := 228) (by decide +kernel), List.mem_of_getElem? (i := 578) (by decide +kernel), List.mem_of_getElem? (i := 579) (by decide +kernel)⟩
def lw_privs_1 : List (MethodName × Nat) := [(⟨"BuyersArm$Reader", "takes", "(ILBuyersArm$Told;)Z"⟩, 4), (⟨"BuyersArm$Reader", "opens", "(ILBuyersArm$Told;)Z"⟩, 4), (⟨"BuyersArm$Reader", "takesOfPerson", "(ILBuyersArm$Told;)Z"⟩, 4), (⟨"BuyersArm$Reader", "takesOfCounter", "(ILBuyersArm$Told;)Z"⟩, 4), (⟨"BuyersArm$Reader", "takesOfBar", "(ILBuyersArm$Told;)Z"⟩, 4), (⟨"BuyersArm", "spentBy", "(I)I"⟩, 10), (⟨"BuyersArm", "gotBy", "(I)I"⟩, 10), (⟨"BuyersArm$Want", "fill", "(IIII)V"⟩, 5), (⟨"BuyersArm$Exchanges", "follows", "(II)Z"⟩, 10), (⟨"BuyersArm$Exchanges", "offer", "(IIIII)V"⟩, 10), (⟨"BuyersArm$Exchanges", "got", "(II)J"⟩, 10), (⟨"BuyersArm$Exchanges", "paid", "(I)J"⟩, 10), (⟨"BuyersArm$Exchanges", "seekThird", "(III)V"⟩, 10), (⟨"BuyersArm", "broughtBy", "(III)I"⟩, 10), (⟨"BuyersArm", "losersBy", "(I)I"⟩, 10), (⟨"BuyersArm$Piece", "fewestTo", "(II[I)I"⟩, 3)]
theorem lw_r1 : ∀ q ∈ lw_privs_1, lw_okq q := List.forall_mem_cons.mpr ⟨lw_p0, List.forall_mem_cons.mpr ⟨lw_p1, List.forall_mem_cons.mpr ⟨lw_p2, List.forall_mem_cons.mpr ⟨lw_p3, List.forall_mem_cons.mpr ⟨lw_p4, List.forall_mem_cons.mpr ⟨lw_p5, List.forall_mem_cons.mpr ⟨lw_p6, List.forall_mem_cons.mpr ⟨lw_p7, List.forall_mem_cons.mpr ⟨lw_p8, List.forall_mem_cons.mpr ⟨lw_p9, List.forall_mem_cons.mpr ⟨lw_p10, List.forall_mem_cons.mpr ⟨lw_p11, List.forall_mem_cons.mpr ⟨lw_p12, List.forall_mem_cons.mpr ⟨lw_p13, List.forall_mem_cons.mpr ⟨lw_p14, List.forall_mem_cons.mpr ⟨lw_p15, fun _ h => absurd h List.not_mem_nil⟩⟩⟩⟩⟩⟩⟩⟩⟩⟩⟩⟩⟩⟩⟩⟩
theorem lw_p16 : lw_okq (⟨"BuyersArmModel", "readMarket", "()I"⟩, 50) := ⟨⟨by decide +kernel, by decide +kernel⟩, List.mem_of_getElem? (i := 647) (by decide +kernel), List.mem_of_getElem? (i := 821) (by decide +kernel), List.mem_of_getElem? (i := 822) (by decide +kernel)⟩
theorem lw_p17 : lw_okq (⟨"BuyersArmModel", "readPart", "()Z"⟩, 50) := ⟨⟨by decide +kernel, by decide +kernel⟩, List.mem_of_getElem? (i := 647) (by decide +kernel), List.mem_of_getElem? (i := 825) (by decide +kernel), List.mem_of_getElem? (i := 826) (by decide +kernel)⟩
theorem lw_p18 : lw_okq (⟨"BuyersArmModel", "readPerson", "()Z"⟩, 50) := ⟨⟨by decide +kernel, by decide +kernel⟩, List.mem_of_getElem? (i := 647) (by decide +kernel), List.mem_of_getElem? (i := 829) (by decide +kernel), List.mem_of_getElem? (i := 830) (by decide +kernel)⟩
theorem lw_p19 : lw_okq (⟨"BuyersArmModel", "two", "(I)I"⟩, 50) := ⟨⟨by decide +kernel, by decide +kernel⟩, List.mem_of_getElem? (i := 647) (by decide +kernel), List.mem_of_getElem? (i := 833) (by decide +kernel), List.mem_of_getElem? (i := 834) (by decide +kernel)⟩
theorem lw_p20 : lw_okq (⟨"BuyersArmModel", "figure", "(I)I"⟩, 50) := ⟨⟨by decide +kernel, by decide +kernel⟩, List.mem_of_getElem? (i := 647) (by decide +kernel), List.mem_of_getElem? (i := 837) (by decide +kernel), List.mem_of_getElem? (i := 838) (by decide +kernel)⟩
theorem lw_p21 : lw_okq (⟨"BuyersArmModel", "readCounter", "()Z"⟩, 50) := ⟨⟨by decide +kernel, by decide +kernel⟩, List.mem_of_getElem? (i := 647) (by decide +kernel), List.mem_of_getElem? (i := 842) (by decide +kernel), List.mem_of_getElem? (i := 843) (by decide +kernel)⟩
theorem lw_p22 : lw_okq (⟨"BuyersArmModel", "hasAny", "()Z"⟩, 50) := ⟨⟨by decide +kernel, by decide +kernel⟩, List.mem_of_getElem? (i := 647) (by decide +kernel), List.mem_of_getElem? (i := 846) (by decide +kernel), List.mem_of_getElem? (i := 847) (by decide +kernel)⟩
theorem lw_p23 : lw_okq (⟨"BuyersArmModel", "hasLeft", "(I)Z"⟩, 50) := ⟨⟨by decide +kernel, by decide +kernel⟩, List.mem_of_getElem? (i := 647) (by decide +kernel), List.mem_of_getElem? (i := 850) (by decide +kernel), List.mem_of_getElem? (i := 851) (by decide +kernel)⟩
theorem lw_p24 : lw_okq (⟨"BuyersArmModel", "readBar", "()Z"⟩, 50) := ⟨⟨by decide +kernel, by decide +kernel⟩, List.mem_of_getElem? (i := 647) (by decide +kernel), List.mem_of_getElem? (i := 854) (by decide +kernel), List.mem_of_getElem? (i := 855) (by decide +kernel)⟩
theorem lw_p25 : lw_okq (⟨"BuyersArmModel", "noOne", "(I)Z"⟩, 50) := ⟨⟨by decide +kernel, by decide +kernel⟩, List.mem_of_getElem? (i := 647) (by decide +kernel), List.mem_of_getElem? (i := 866) (by decide +kernel), List.mem_of_getElem? (i := 867) (by decide +kernel)⟩
theorem lw_p26 : lw_okq (⟨"BuyersArmModel", "sumOf", "(III)I"⟩, 50) := ⟨⟨by decide +kernel, by decide +kernel⟩, List.mem_of_getElem? (i := 647) (by decide +kernel), List.mem_of_getElem? (i := 870) (by decide +kernel), List.mem_of_getElem? (i := 871) (by decide +kernel)⟩
theorem lw_p27 : lw_okq (⟨"BuyersArmModel", "noCounter", "(I)Z"⟩, 50) := ⟨⟨by decide +kernel, by decide +kernel⟩, List.mem_of_getElem? (i := 647) (by decide +kernel), List.mem_of_getElem? (i := 878) (by decide +kernel), List.mem_of_getElem? (i := 879) (by decide +kernel)⟩
theorem lw_p28 : lw_okq (⟨"BuyersArmModel", "findCheapest", "(II)I"⟩, 50) := ⟨⟨by decide +kernel, by decide +kernel⟩, List.mem_of_getElem? (i := 647) (by decide +kernel), List.mem_of_getElem? (i := 921) (by decide +kernel), List.mem_of_getElem? (i := 922) (by decide +kernel)⟩
theorem lw_p29 : lw_okq (⟨"BuyersArmModel", "layFew", "(II)V"⟩, 50) := ⟨⟨by decide +kernel, by decide +kernel⟩, List.mem_of_getElem? (i := 647) (by decide +kernel), List.mem_of_getElem? (i := 928) (by decide +kernel), List.mem_of_getElem? (i := 929) (by decide +kernel)⟩
theorem lw_p30 : lw_okq (⟨"BuyersArmModel", "layWay", "(IIII)V"⟩, 50) := ⟨⟨by decide +kernel, by decide +kernel⟩, List.mem_of_getElem? (i := 647) (by decide +kernel), List.mem_of_getElem? (i := 933) (by decide +kernel), List.mem_of_getElem? (i := 934) (by decide +kernel)⟩
theorem lw_p31 : lw_okq (⟨"BuyersArmModel", "can", "(IIIII)Z"⟩, 50) := ⟨⟨by decide +kernel, by decide +kernel⟩, List.mem_of_getElem? (i := 647) (by decide +kernel), List.mem_of_getElem? (i := 937) (by decide +kernel), List.mem_of_getElem? (i := 938) (by decide +kernel)⟩
def lw_privs_2 : List (MethodName × Nat) := [(⟨"BuyersArmModel", "readMarket", "()I"⟩, 50), (⟨"BuyersArmModel", "readPart", "()Z"⟩, 50), (⟨"BuyersArmModel", "readPerson", "()Z"⟩, 50), (⟨"BuyersArmModel", "two", "(I)I"⟩, 50), (⟨"BuyersArmModel", "figure", "(I)I"⟩, 50), (⟨"BuyersArmModel", "readCounter", "()Z"⟩, 50), (⟨"BuyersArmModel", "hasAny", "()Z"⟩, 50), (⟨"BuyersArmModel", "hasLeft", "(I)Z"⟩, 50), (⟨"BuyersArmModel", "readBar", "()Z"⟩, 50), (⟨"BuyersArmModel", "noOne", "(I)Z"⟩, 50), (⟨"BuyersArmModel", "sumOf", "(III)I"⟩, 50), (⟨"BuyersArmModel", "noCounter", "(I)Z"⟩, 50), (⟨"BuyersArmModel", "findCheapest", "(II)I"⟩, 50), (⟨"BuyersArmModel", "layFew", "(II)V"⟩, 50), (⟨"BuyersArmModel", "layWay", "(IIII)V"⟩, 50), (⟨"BuyersArmModel", "can", "(IIIII)Z"⟩, 50)]
theorem lw_r2 : ∀ q ∈ lw_privs_2, lw_okq q := List.forall_mem_cons.mpr ⟨lw_p16, List.forall_mem_cons.mpr ⟨lw_p17, List.forall_mem_cons.mpr ⟨lw_p18, List.forall_mem_cons.mpr ⟨lw_p19, List.forall_mem_cons.mpr ⟨lw_p20, List.forall_mem_cons.mpr ⟨lw_p21, List.forall_mem_cons.mpr ⟨lw_p22, List.forall_mem_cons.mpr ⟨lw_p23, List.forall_mem_cons.mpr ⟨lw_p24, List.forall_mem_cons.mpr ⟨lw_p25, List.forall_mem_cons.mpr ⟨lw_p26, List.forall_mem_cons.mpr ⟨lw_p27, List.forall_mem_cons.mpr ⟨lw_p28, List.forall_mem_cons.mpr ⟨lw_p29, List.forall_mem_cons.mpr ⟨lw_p30, List.forall_mem_cons.mpr ⟨lw_p31, fun _ h => absurd h List.not_mem_nil⟩⟩⟩⟩⟩⟩⟩⟩⟩⟩⟩⟩⟩⟩⟩⟩
theorem lw_p32 : lw_okq (⟨"BuyersArmModel", "findRing", "(I)Z"⟩, 50) := ⟨⟨by decide +kernel, by decide +kernel⟩, List.mem_of_getElem? (i := 647) (by decide +kernel), List.mem_of_getElem? (i := 959) (by decide +kernel), List.mem_of_getElem? (i := 960) (by decide +kernel)⟩
theorem lw_p33 : lw_okq (⟨"BuyersArmModel", "isRing", "(I)Z"⟩, 50) := ⟨⟨by decide +kernel, by decide +kernel⟩, List.mem_of_getElem? (i := 647) (by decide +kernel), List.mem_of_getElem? (i := 963) (by decide +kernel), List.mem_of_getElem? (i := 964) (by decide +kernel)⟩
theorem lw_p34 : lw_okq (⟨"BuyersArmModel", "earnedBy", "(III)I"⟩, 50) := ⟨⟨by decide +kernel, by decide +kernel⟩, List.mem_of_getElem? (i := 647) (by decide +kernel), List.mem_of_getElem? (i := 981) (by decide +kernel), List.mem_of_getElem? (i := 982) (by decide +kernel)⟩
theorem lw_p35 : lw_okq (⟨"BuyersArmModel", "losersBy", "(I)I"⟩, 50) := ⟨⟨by decide +kernel, by decide +kernel⟩, List.mem_of_getElem? (i := 647) (by decide +kernel), List.mem_of_getElem? (i := 997) (by decide +kernel), List.mem_of_getElem? (i := 998) (by decide +kernel)⟩
theorem lw_p36 : lw_okq (⟨"BuyersArmModel", "layRows", "(I)I"⟩, 50) := ⟨⟨by decide +kernel, by decide +kernel⟩, List.mem_of_getElem? (i := 647) (by decide +kernel), List.mem_of_getElem? (i := 1025) (by decide +kernel), List.mem_of_getElem? (i := 1026) (by decide +kernel)⟩
theorem lw_p37 : lw_okq (⟨"BuyersArmModel", "fits", "(I)Z"⟩, 50) := ⟨⟨by decide +kernel, by decide +kernel⟩, List.mem_of_getElem? (i := 647) (by decide +kernel), List.mem_of_getElem? (i := 1029) (by decide +kernel), List.mem_of_getElem? (i := 1030) (by decide +kernel)⟩
def lw_privs_3 : List (MethodName × Nat) := [(⟨"BuyersArmModel", "findRing", "(I)Z"⟩, 50), (⟨"BuyersArmModel", "isRing", "(I)Z"⟩, 50), (⟨"BuyersArmModel", "earnedBy", "(III)I"⟩, 50), (⟨"BuyersArmModel", "losersBy", "(I)I"⟩, 50), (⟨"BuyersArmModel", "layRows", "(I)I"⟩, 50), (⟨"BuyersArmModel", "fits", "(I)Z"⟩, 50)]
theorem lw_r3 : ∀ q ∈ lw_privs_3, lw_okq q := List.forall_mem_cons.mpr ⟨lw_p32, List.forall_mem_cons.mpr ⟨lw_p33, List.forall_mem_cons.mpr ⟨lw_p34, List.forall_mem_cons.mpr ⟨lw_p35, List.forall_mem_cons.mpr ⟨lw_p36, List.forall_mem_cons.mpr ⟨lw_p37, fun _ h => absurd h List.not_mem_nil⟩⟩⟩⟩⟩⟩
def lw_privs : List (MethodName × Nat) := lw_privs_1 ++ (lw_privs_2 ++ (lw_privs_3))
def lw_tbl : List Cond := k2_sels lw_privs ++ tables_1
theorem lw_privs_ok : ∀ q ∈ lw_privs, lw_okq q := by
  show ∀ q ∈ lw_privs_1 ++ (lw_privs_2 ++ (lw_privs_3)), lw_okq q
  exact List.forall_mem_append.mpr ⟨lw_r1, List.forall_mem_append.mpr ⟨lw_r2, lw_r3⟩⟩
end
section
def va_AOA (ty : FieldType) (U : State) : Prop := (Cond.arrayOver (.array ty)).before #[] U = true
theorem va_AOA.use {ty : FieldType} {A : Array Value} {U : State} (h : va_AOA ty U) : (Cond.arrayOver (.array ty)).before A U = true := h
theorem va_AOA.of {ty : FieldType} {A : Array Value} {U : State} (h : (Cond.arrayOver (.array ty)).before A U = true) : va_AOA ty U := h
/-! ===== BEGIN words of one list among another's, by their places ===== -/
theorem goodIn_r {big : List Cond} (ws : List Cond) (ps : List Nat) (hp : ws = ps.filterMap (fun i => big[i]?)) (h : ws.all goodWord = true) : GoodIn big ws := by
  intro w hw
  have h1 := List.all_eq_true.mp h w hw
  rw [hp] at hw
  obtain ⟨i, -, hi⟩ := List.mem_filterMap.mp hw
  have hm : w ∈ big := by first | exact List.mem_of_getElem? hi | exact List.getElem?_mem hi
  exact ⟨hm, good_of_word h1⟩
theorem goodIn_app {big a b : List Cond} (ha : GoodIn big a) (hb : GoodIn big b) : GoodIn big (a ++ b) := fun w h => (List.mem_append.mp h).elim (ha w) (hb w)
theorem goodIn_ca {big a b : List Cond} {c : Cond} (ha : GoodIn big (c :: a)) (hb : GoodIn big b) : GoodIn big (c :: (a ++ b)) := fun w h => (List.mem_cons.mp h).elim (fun e => ha w (List.mem_cons.mpr (Or.inl e))) (fun h => (List.mem_append.mp h).elim (fun h => ha w (List.mem_cons.mpr (Or.inr h))) (hb w))
theorem goodIn_sub {big ws : List Cond} (hm : ∀ w ∈ ws, w ∈ big) (h : ws.all goodWord = true) : GoodIn big ws := fun w hw => ⟨hm w hw, good_of_word (List.all_eq_true.mp h w hw)⟩
/-! ===== END ===== -/

/-! ===== BEGIN new T[n][m]: the outer array a place, the inner ones among the pooled ===== -/
/-- f, but v at every address of l -/
def vr_up {α : Type} (f : Nat → α) (l : List Nat) (v : α) : Nat → α := fun a => if a ∈ l then v else f a
theorem vr_up_in {α : Type} {f : Nat → α} {l : List Nat} {v : α} {a : Nat} (h : a ∈ l) : vr_up f l v a = v := if_pos h
theorem vr_up_ne {α : Type} {f : Nat → α} {l : List Nat} {v : α} {a : Nat} (h : a ∉ l) : vr_up f l v a = f a := if_neg h
theorem vr_rows {L l : List Nat} {f : Nat → va_E} {e : va_E} (h : ∀ a, a ∈ l → a ∉ L) : va_pl L f ++ l.map (fun a => (a, e)) = va_pl (L ++ l) (vr_up f l e) := by
  unfold va_pl
  rw [List.map_append]
  congr 1
  · apply List.map_congr_left
    intro a ha
    rw [vr_up_ne (fun q => h a q ha)]
  · apply List.map_congr_left
    intro a ha
    rw [vr_up_in ha]
theorem vr_lay {X rows : va_W} {x : Nat × va_E} {pl : va_W} {D : va_G} {cl : List vw_C} {H : Heap} (hP : va_P D cl (((X ++ pl) ++ [x]) ++ rows) H) : va_P D cl ((X ++ [x]) ++ (pl ++ rows)) H := by
  rw [List.append_assoc (X ++ pl)] at hP
  have h := va_P.swap hP
  rw [← List.append_assoc X] at h
  have h2 := va_P.swap h
  rw [List.append_assoc (X ++ [x])] at h2
  exact h2
theorem vr_layD {X rows : va_W} {x : Nat × va_E} {pl : va_W} {A : Nat → Prop} (hD : va_D A (((X ++ pl) ++ [x]) ++ rows)) : va_D A ((X ++ [x]) ++ (pl ++ rows)) := by
  rw [List.append_assoc (X ++ pl)] at hD
  have h := va_D.swap hD
  rw [← List.append_assoc X] at h
  have h2 := va_D.swap h
  rw [List.append_assoc (X ++ [x])] at h2
  exact h2
theorem vr_outer (c : ClassId) (N h0 : Nat) : ∀ i : Nat, Jvm.Free.Multi.outerC c N h0 i = arrV c N (fun j => va_rf (if j < i then some (h0 + 1 + j) else none))
  | 0 => by
    show ({ cls := c, slots := Array.replicate N .null, vm := .none } : Cell) = _
    rw [arrV_new]
    refine congrArg (arrV c N) (funext fun j => ?_)
    simp [va_rf]
  | i + 1 => by
    show (Jvm.Free.Multi.outerC c N h0 i).setSlot i (.ref (h0 + 1 + i)) = _
    rw [vr_outer c N h0 i, arrV_store]
    refine congrArg (arrV c N) (funext fun j => ?_)
    by_cases e : j = i
    · subst e
      simp [updV, va_rf]
    · by_cases h : j < i
      · simp [updV, e, h, Nat.lt_succ_of_lt h]
      · simp [updV, e, h, show ¬ j < i + 1 by omega]
section VGM
variable {p : Program} {l : Launch} {e : Env} {R : Room} {s : State} {m : MethodId} {args : Array Value} {below : List Frame} {meth : Method} {c : Code} {H : Heap} {locs : List Loc} {cells slots : Nat} {Q : State → Prop}
variable {cc : ByteArray} {pc : Nat} {ls : Array Slot} {rest : List Value} {D : va_G} {cl : List vw_C} {A : Nat → Prop} {a : Nat} {tys : List (ClassId × FieldType)} {ws : va_W} {H0 : Heap}
theorem va_mna {X : va_W} {L : List Nat} {f : Nat → va_E} {cc : ByteArray} (hexec : p.tables.exec = Jvm.exec) (hb : c.code = cc) {own : String} {index : Nat} {ty : FieldType} {cy : ClassId} (hown : s.vm.findClass own = some m.cls) (hclink : (Cond.classLink own index ("[" ++ (FieldType.array ty).toString)).before args s = true) (hover : va_AOA ty s) (harr : (Cond.arrayClass ty).before args s = true) (hcy : s.vm.findClass (FieldType.array ty).toString = some cy)
    (hK : va_K D cl tys s) (hP : va_P D cl (X ++ va_pl L f) H) (hD : va_D A (X ++ va_pl L f)) (hS : va_S A H0 H locs) (hA : ∀ q, H0.size ≤ q → A q) {n k : Int32} {N' K' : Nat} {z : vp_A} (hn : ¬ n < 0) (hk : ¬ k < 0) (hN : n.toNatClampNeg = N') (hM : k.toNatClampNeg = K')
    (hb1 : N' * 4 ≤ 536870912) (hb2 : K' * componentBytes ty ≤ 536870912) (hb3 : K' ≤ 536870912) (hdf : fits ty (defaultValue ty) = true) (hdd : (defaultValue ty).isDefault = true) (hcells : cells + (1 + N') ≤ R.cells) (hslots : slots + (N' + N' * K') ≤ R.slots) (hz : ∀ c : ClassId, Jvm.Free.Multi.innerC c K' (defaultValue ty) = vp_cell c z) (hdg : decode cc pc = .ok (.multianewarray index 2, 4))
    (kk : ∀ (q : Nat) (r : Nat → Nat) (cA : ClassId) (H1 : Heap), (∀ i j : Nat, i < N' → j < N' → r i = r j → i = j) → (∀ i : Nat, i < N' → r i ∉ L) → va_K D cl (tys ++ [(cA, .array ty)]) s →
      va_P D cl ((X ++ [(q, .inl (cA, N', .inr (.inr (.inr (.inr (fun i => if i < N' then some (r i) else none))))))]) ++ va_pl (L ++ (List.range N').map r) (vr_up f ((List.range N').map r) (.inl (cy, z)))) H1 → va_D A ((X ++ [(q, .inl (cA, N', .inr (.inr (.inr (.inr (fun i => if i < N' then some (r i) else none))))))]) ++ va_pl (L ++ (List.range N').map r) (vr_up f ((List.range N').map r) (.inl (cy, z)))) → va_S A H0 H1 locs →
      W p l e R s m args below meth c H1 locs (cells + 1 + N') (slots + N' + N' * K') Q (F0 m (pc + 4) ls (.ref q :: rest))) : W p l e R s m args below meth c H locs cells slots Q (F0 m pc ls (.int k :: .int n :: rest)) := by
  subst hN
  subst hM
  intro T hT Xs
  obtain ⟨vm₁, cA, comp, -, fA, fC, hO, -, X', step⟩ := Xs.multianewarray2F hexec hown hclink (va_AOA.use hover) harr (g := F0 m pc ls (.int k :: .int n :: rest)) rfl (by rw [hb]; exact hdg) rfl hn hk hb1 hb2 hb3 hdf hdd hcells hslots
  have ec : some cy = some comp := hcy.symm.trans fC
  cases ec
  generalize hF : Jvm.Free.Multi.fill (T.setVm vm₁) cA cy n.toNatClampNeg k.toNatClampNeg (defaultValue ty) n.toNatClampNeg = F at X' step
  have hTh : (T.setVm vm₁).heap = H := hT
  obtain ⟨f1, f2, -, -⟩ := Jvm.Free.Multi.fill_facts (T.setVm vm₁) cA cy n.toNatClampNeg k.toNatClampNeg (defaultValue ty) n.toNatClampNeg
  rw [hF, hTh] at f1 f2
  have hold : ∀ x : Nat, x < H.size → F.heap[x]? = H[x]? := fun x hx => by
    have := Jvm.Free.Multi.fill_old (T.setVm vm₁) cA cy n.toNatClampNeg k.toNatClampNeg (defaultValue ty) (a := x) (by rw [hTh]; exact hx) n.toNatClampNeg
    rw [hF, hTh] at this
    exact this
  have hrow : ∀ j : Nat, j < n.toNatClampNeg → F.heap[H.size + 1 + j]? = some (vp_cell cy z) := fun j hj => by
    have := Jvm.Free.Multi.fill_inner (T.setVm vm₁) cA cy n.toNatClampNeg k.toNatClampNeg (defaultValue ty) n.toNatClampNeg j hj
    rw [hF, hTh, hz] at this
    exact this
  have hout : Jvm.Free.Multi.outerC cA n.toNatClampNeg H.size n.toNatClampNeg = vp_cell cA (n.toNatClampNeg, .inr (.inr (.inr (.inr (fun i => if i < n.toNatClampNeg then some (H.size + 1 + i) else none))))) := by
    rw [vp_cell_q]
    exact vr_outer cA n.toNatClampNeg H.size n.toNatClampNeg
  rw [hout] at f2
  have hlt : ∀ a, a ∈ L → a < H.size := fun a ha => by
    obtain ⟨k9, hk9⟩ := va_pl_get (X := X) (f := f) ha
    exact (hP k9 _ hk9).lt
  have hnl : ∀ i : Nat, i < n.toNatClampNeg → H.size + 1 + i ∉ L := fun i _ h => by
    have := hlt _ h
    omega
  have hnm : ∀ a, a ∈ (List.range n.toNatClampNeg).map (fun i => H.size + 1 + i) → a ∉ L := fun a ha h => by
    obtain ⟨i, -, rfl⟩ := List.mem_map.mp ha
    have := hlt _ h
    omega
  have hP0 : va_P D cl (X ++ va_pl L f) F.heap := hP.kept (fun k9 x hx => hold x.1 ((hP k9 x hx).lt))
  have hP1 : va_P D cl ((X ++ va_pl L f) ++ [(H.size, .inl (cA, n.toNatClampNeg, .inr (.inr (.inr (.inr (fun i => if i < n.toNatClampNeg then some (H.size + 1 + i) else none))))))]) F.heap := hP0.app (fun k9 x hx => by
    have h0 : k9 < 1 := (List.getElem?_eq_some_iff.mp hx).1
    rw [show k9 = 0 by omega] at hx
    cases hx
    exact f2)
  have hP2 : va_P D cl (((X ++ va_pl L f) ++ [(H.size, .inl (cA, n.toNatClampNeg, .inr (.inr (.inr (.inr (fun i => if i < n.toNatClampNeg then some (H.size + 1 + i) else none))))))]) ++ ((List.range n.toNatClampNeg).map (fun i => H.size + 1 + i)).map (fun a => (a, .inl (cy, z)))) F.heap := hP1.app (fun k9 x hx => by
    obtain ⟨a, ha, rfl⟩ := List.mem_map.mp (List.mem_of_getElem? hx)
    obtain ⟨i, hi, rfl⟩ := List.mem_map.mp ha
    exact hrow i (List.mem_range.mp hi))
  have hD2 : va_D A (((X ++ va_pl L f) ++ [(H.size, .inl (cA, n.toNatClampNeg, .inr (.inr (.inr (.inr (fun i => if i < n.toNatClampNeg then some (H.size + 1 + i) else none))))))]) ++ ((List.range n.toNatClampNeg).map (fun i => H.size + 1 + i)).map (fun a => (a, .inl (cy, z)))) := by
    have hD1 := hD.push (e := .inl (cA, n.toNatClampNeg, .inr (.inr (.inr (.inr (fun i => if i < n.toNatClampNeg then some (H.size + 1 + i) else none)))))) hP rfl (hA _ hS.1)
    generalize hW1 : (X ++ va_pl L f) ++ [(H.size, .inl (cA, n.toNatClampNeg, .inr (.inr (.inr (.inr (fun i => if i < n.toNatClampNeg then some (H.size + 1 + i) else none))))))] = W1 at hD1 hP1 ⊢
    have hle : ∀ (k9 : Nat) (x : Nat × va_E), W1[k9]? = some x → x.1 ≤ H.size := fun k9 x hx => by
      rw [← hW1] at hx
      by_cases hl : k9 < (X ++ va_pl L f).length
      · rw [List.getElem?_append_left hl] at hx
        exact Nat.le_of_lt ((hP k9 x hx).lt)
      · rw [List.getElem?_append_right (by omega)] at hx
        have h0 : k9 - (X ++ va_pl L f).length < 1 := (List.getElem?_eq_some_iff.mp hx).1
        rw [show k9 - (X ++ va_pl L f).length = 0 by omega] at hx
        cases hx
        exact Nat.le_refl _
    have hr : ∀ (k9 : Nat) (x : Nat × va_E), (((List.range n.toNatClampNeg).map (fun i => H.size + 1 + i)).map (fun a => ((a, .inl (cy, z)) : Nat × va_E)))[k9]? = some x → x.1 = H.size + 1 + k9 := fun k9 x hx => by
      rw [List.getElem?_map, List.getElem?_map] at hx
      by_cases h9 : k9 < n.toNatClampNeg
      · rw [List.getElem?_range h9] at hx
        cases hx
        rfl
      · have hn0 : (List.range n.toNatClampNeg)[k9]? = none := List.getElem?_eq_none (by rw [List.length_range]; omega)
        rw [hn0] at hx
        cases hx
    refine ⟨fun i j x y hi hj hxy => ?_, fun k9 x hx => ?_⟩
    · by_cases h1 : i < W1.length <;> by_cases h2 : j < W1.length
      · rw [List.getElem?_append_left h1] at hi
        rw [List.getElem?_append_left h2] at hj
        exact hD1.1 i j x y hi hj hxy
      · rw [List.getElem?_append_left h1] at hi
        rw [List.getElem?_append_right (by omega)] at hj
        have := hle _ _ hi
        have := hr _ _ hj
        omega
      · rw [List.getElem?_append_right (by omega)] at hi
        rw [List.getElem?_append_left h2] at hj
        have := hle _ _ hj
        have := hr _ _ hi
        omega
      · rw [List.getElem?_append_right (by omega)] at hi hj
        have := hr _ _ hi
        have := hr _ _ hj
        omega
    · by_cases h1 : k9 < W1.length
      · rw [List.getElem?_append_left h1] at hx
        exact hD1.2 k9 x hx
      · rw [List.getElem?_append_right (by omega)] at hx
        have := hr _ _ hx
        exact hA _ (by have := hS.1; omega)
  have hAr : ArrOfT s cA (.array ty) := fun N9 z9 => by
    obtain ⟨-, k9, hk9, cm9, hkk9⟩ := (hO 0 0 0).1
    exact ⟨(fun q hq => by cases hq), k9, hk9, cm9, hkk9⟩
  have hK2 : va_K D cl (tys ++ [(cA, .array ty)]) s := ⟨hK.1, fun k9 x hx => by
    by_cases hl : k9 < tys.length
    · rw [List.getElem?_append_left hl] at hx
      exact hK.2 k9 x hx
    · rw [List.getElem?_append_right (by omega)] at hx
      have h0 : k9 - tys.length < 1 := (List.getElem?_eq_some_iff.mp hx).1
      rw [show k9 - tys.length = 0 by omega] at hx
      cases hx
      exact ⟨hAr, fA⟩⟩
  obtain ⟨t, a1, b1⟩ := kk H.size (fun i => H.size + 1 + i) cA F.heap (fun i j _ _ h => by have h9 : H.size + 1 + i = H.size + 1 + j := h; omega) hnl hK2 (by rw [← vr_rows hnm]; exact vr_lay hP2) (by rw [← vr_rows hnm]; exact vr_layD hD2) ⟨by rw [f1]; have := hS.1; omega, fun x h1 h2 => (hold x (Nat.lt_of_lt_of_le h1 hS.1)).trans (hS.2.1 x h1 h2), hS.2.2⟩ F rfl X'
  refine ⟨t, step t ?_, b1⟩
  have e : T.heap.size = H.size := by rw [hT]
  rw [e]
  exact a1
end VGM
/-! ===== END ===== -/

/-! ===== BEGIN printed: names, fields, word lists, decode rows ===== -/
def RX0 : String := "BuyersArm$Exchanges"
def TX0 : u_T := fun k => match k with
  | 0 => ("BuyersArm$Exchanges", "from", "[I", true)
  | 1 => ("BuyersArm$Exchanges", "to", "[I", true)
  | 2 => ("BuyersArm$Exchanges", "given", "[I", true)
  | 3 => ("BuyersArm$Exchanges", "taken", "[I", true)
  | 4 => ("BuyersArm$Exchanges", "armOfGiven", "[I", true)
  | 5 => ("BuyersArm$Exchanges", "made", "I", false)
  | 6 => ("BuyersArm$Exchanges", "best", "[I", true)
  | 7 => ("BuyersArm$Exchanges", "size", "I", false)
  | 8 => ("BuyersArm$Exchanges", "behind", "J", false)
  | _ => ("BuyersArm$Exchanges", "ahead", "J", false)
def tyX0 : Nat → FieldType := fun k => match k with
  | 0 => .array .int
  | 1 => .array .int
  | 2 => .array .int
  | 3 => .array .int
  | 4 => .array .int
  | 5 => .int
  | 6 => .array .int
  | 7 => .int
  | 8 => .long
  | _ => .long
abbrev wsX00 : List Cond := u_ws RX0 TX0 10
theorem nmX0 : ∀ a, a < 10 → ∀ b, b < 10 → a ≠ b → (TX0 a).2.1 ≠ (TX0 b).2.1 := by decide +kernel
theorem tyX0_ok : ∀ k, k < 10 → parseFieldDescriptor (TX0 k).2.2.1 = some (tyX0 k) := by decide +kernel
abbrev cX0_init : ByteArray := prog_2_method_1_code
def yX0_init : MethodName := ⟨RX0, "<init>", "()V"⟩
abbrev cX0_add : ByteArray := prog_2_method_2_code
def yX0_add : MethodName := ⟨RX0, "add", "(IIIII)V"⟩
abbrev cX0_seekBest : ByteArray := prog_2_method_3_code
def yX0_seekBest : MethodName := ⟨RX0, "seekBest", "(I)V"⟩
abbrev cX0_seekThird : ByteArray := prog_2_method_4_code
def yX0_seekThird : MethodName := ⟨RX0, "seekThird", "(III)V"⟩
abbrev cX0_follows : ByteArray := prog_2_method_5_code
def yX0_follows : MethodName := ⟨RX0, "follows", "(II)Z"⟩
abbrev cX0_offer : ByteArray := prog_2_method_6_code
def yX0_offer : MethodName := ⟨RX0, "offer", "(IIIII)V"⟩
abbrev cX0_got : ByteArray := prog_2_method_7_code
def yX0_got : MethodName := ⟨RX0, "got", "(II)J"⟩
abbrev cX0_paid : ByteArray := prog_2_method_8_code
def yX0_paid : MethodName := ⟨RX0, "paid", "(I)J"⟩
def RX1 : String := "BuyersArm$Hidden"
def TX1 : u_T := fun k => match k with
  | 0 => ("BuyersArm$Hidden", "misfits", "[I", true)
  | 1 => ("BuyersArm$Hidden", "lengths", "[I", true)
  | 2 => ("BuyersArm$Hidden", "times", "I", false)
  | _ => ("BuyersArm$Hidden", "rows", "I", false)
def tyX1 : Nat → FieldType := fun k => match k with
  | 0 => .array .int
  | 1 => .array .int
  | 2 => .int
  | _ => .int
abbrev wsX10 : List Cond := u_ws RX1 TX1 4
theorem nmX1 : ∀ a, a < 4 → ∀ b, b < 4 → a ≠ b → (TX1 a).2.1 ≠ (TX1 b).2.1 := by decide +kernel
theorem tyX1_ok : ∀ k, k < 4 → parseFieldDescriptor (TX1 k).2.2.1 = some (tyX1 k) := by decide +kernel
abbrev cX1_init : ByteArray := prog_3_method_1_code
def yX1_init : MethodName := ⟨RX1, "<init>", "()V"⟩
abbrev cX1_forget : ByteArray := prog_3_method_2_code
def yX1_forget : MethodName := ⟨RX1, "forget", "()V"⟩
abbrev cX1_hold : ByteArray := prog_3_method_3_code
def yX1_hold : MethodName := ⟨RX1, "hold", "(IIIII)V"⟩
abbrev cX1_reckon : ByteArray := prog_3_method_4_code
def yX1_reckon : MethodName := ⟨RX1, "reckon", "()V"⟩
abbrev cX1_leastOf : ByteArray := prog_3_method_5_code
def yX1_leastOf : MethodName := ⟨RX1, "leastOf", "(I)I"⟩
abbrev cX1_greatestOf : ByteArray := prog_3_method_6_code
def yX1_greatestOf : MethodName := ⟨RX1, "greatestOf", "(I)I"⟩
def RX2 : String := "BuyersArm$Piece"
def TX2 : u_T := fun k => match k with
  | 0 => ("BuyersArm$Piece", "ellsTo", "[I", true)
  | 1 => ("BuyersArm$Piece", "leftOver", "I", false)
  | _ => ("BuyersArm$Piece", "fewest", "I", false)
def tyX2 : Nat → FieldType := fun k => match k with
  | 0 => .array .int
  | 1 => .int
  | _ => .int
abbrev wsX20 : List Cond := u_ws RX2 TX2 3
theorem nmX2 : ∀ a, a < 3 → ∀ b, b < 3 → a ≠ b → (TX2 a).2.1 ≠ (TX2 b).2.1 := by decide +kernel
theorem tyX2_ok : ∀ k, k < 3 → parseFieldDescriptor (TX2 k).2.2.1 = some (tyX2 k) := by decide +kernel
abbrev cX2_init : ByteArray := prog_4_method_1_code
def yX2_init : MethodName := ⟨RX2, "<init>", "()V"⟩
abbrev cX2_reckon : ByteArray := prog_4_method_2_code
def yX2_reckon : MethodName := ⟨RX2, "reckon", "(II[I)V"⟩
abbrev cX2_fewestTo : ByteArray := prog_4_method_3_code
def yX2_fewestTo : MethodName := ⟨RX2, "fewestTo", "(II[I)I"⟩
def RX3 : String := "BuyersArm$Reader"
def TX3 : u_T := fun k => match k with
  | 0 => ("BuyersArm$Reader", "part", "I", false)
  | 1 => ("BuyersArm$Reader", "digits", "I", false)
  | 2 => ("BuyersArm$Reader", "number", "I", false)
  | _ => ("BuyersArm$Reader", "barredPerson", "I", false)
def tyX3 : Nat → FieldType := fun k => match k with
  | 0 => .int
  | 1 => .int
  | 2 => .int
  | _ => .int
abbrev wsX30 : List Cond := u_ws RX3 TX3 4
theorem nmX3 : ∀ a, a < 4 → ∀ b, b < 4 → a ≠ b → (TX3 a).2.1 ≠ (TX3 b).2.1 := by decide +kernel
theorem tyX3_ok : ∀ k, k < 4 → parseFieldDescriptor (TX3 k).2.2.1 = some (tyX3 k) := by decide +kernel
abbrev cX3_init : ByteArray := prog_5_method_1_code
def yX3_init : MethodName := ⟨RX3, "<init>", "()V"⟩
abbrev cX3_read : ByteArray := prog_5_method_2_code
def yX3_read : MethodName := ⟨RX3, "read", "(LBuyersArm$Signs;LBuyersArm$Told;)I"⟩
abbrev cX3_takes : ByteArray := prog_5_method_3_code
def yX3_takes : MethodName := ⟨RX3, "takes", "(ILBuyersArm$Told;)Z"⟩
abbrev cX3_opens : ByteArray := prog_5_method_4_code
def yX3_opens : MethodName := ⟨RX3, "opens", "(ILBuyersArm$Told;)Z"⟩
abbrev cX3_takesOfPerson : ByteArray := prog_5_method_5_code
def yX3_takesOfPerson : MethodName := ⟨RX3, "takesOfPerson", "(ILBuyersArm$Told;)Z"⟩
abbrev cX3_takesOfCounter : ByteArray := prog_5_method_6_code
def yX3_takesOfCounter : MethodName := ⟨RX3, "takesOfCounter", "(ILBuyersArm$Told;)Z"⟩
abbrev cX3_takesOfBar : ByteArray := prog_5_method_7_code
def yX3_takesOfBar : MethodName := ⟨RX3, "takesOfBar", "(ILBuyersArm$Told;)Z"⟩
def RX4 : String := "BuyersArm$Signs"
def TX4 : u_T := fun k => match k with
  | 0 => ("BuyersArm$Signs", "row", "[I", true)
  | _ => ("BuyersArm$Signs", "length", "I", false)
def tyX4 : Nat → FieldType := fun k => match k with
  | 0 => .array .int
  | _ => .int
abbrev wsX40 : List Cond := u_ws RX4 TX4 2
theorem nmX4 : ∀ a, a < 2 → ∀ b, b < 2 → a ≠ b → (TX4 a).2.1 ≠ (TX4 b).2.1 := by decide +kernel
theorem tyX4_ok : ∀ k, k < 2 → parseFieldDescriptor (TX4 k).2.2.1 = some (tyX4 k) := by decide +kernel
abbrev cX4_init : ByteArray := prog_6_method_1_code
def yX4_init : MethodName := ⟨RX4, "<init>", "()V"⟩
abbrev cX4_append : ByteArray := prog_6_method_2_code
def yX4_append : MethodName := ⟨RX4, "append", "(IJ)V"⟩
def RX5 : String := "BuyersArm$Stand"
def TX5 : u_T := fun k => match k with
  | 0 => ("BuyersArm$Stand", "arms", "[I", true)
  | 1 => ("BuyersArm$Stand", "stocks", "[I", true)
  | 2 => ("BuyersArm$Stand", "buyers", "[I", true)
  | 3 => ("BuyersArm$Stand", "sellers", "[I", true)
  | 4 => ("BuyersArm$Stand", "ells", "[I", true)
  | 5 => ("BuyersArm$Stand", "parts", "[I", true)
  | 6 => ("BuyersArm$Stand", "sales", "I", false)
  | 7 => ("BuyersArm$Stand", "commonEll", "I", false)
  | _ => ("BuyersArm$Stand", "isKept", "Z", false)
def tyX5 : Nat → FieldType := fun k => match k with
  | 0 => .array .int
  | 1 => .array .int
  | 2 => .array .int
  | 3 => .array .int
  | 4 => .array .int
  | 5 => .array .int
  | 6 => .int
  | 7 => .int
  | _ => .boolean
abbrev wsX50 : List Cond := u_ws RX5 TX5 9
theorem nmX5 : ∀ a, a < 9 → ∀ b, b < 9 → a ≠ b → (TX5 a).2.1 ≠ (TX5 b).2.1 := by decide +kernel
theorem tyX5_ok : ∀ k, k < 9 → parseFieldDescriptor (TX5 k).2.2.1 = some (tyX5 k) := by decide +kernel
abbrev cX5_init : ByteArray := prog_7_method_1_code
def yX5_init : MethodName := ⟨RX5, "<init>", "()V"⟩
abbrev cX5_begin : ByteArray := prog_7_method_2_code
def yX5_begin : MethodName := ⟨RX5, "begin", "(LBuyersArm$Told;)V"⟩
abbrev cX5_takeFrom : ByteArray := prog_7_method_3_code
def yX5_takeFrom : MethodName := ⟨RX5, "takeFrom", "(LBuyersArm$Stand;)V"⟩
abbrev cX5_sell : ByteArray := prog_7_method_4_code
def yX5_sell : MethodName := ⟨RX5, "sell", "(III)V"⟩
abbrev cX5_takeBack : ByteArray := prog_7_method_5_code
def yX5_takeBack : MethodName := ⟨RX5, "takeBack", "()V"⟩
abbrev cX5_ellsSoldAt : ByteArray := prog_7_method_6_code
def yX5_ellsSoldAt : MethodName := ⟨RX5, "ellsSoldAt", "(I)I"⟩
abbrev cX5_lostAt : ByteArray := prog_7_method_7_code
def yX5_lostAt : MethodName := ⟨RX5, "lostAt", "(I)I"⟩
def RX6 : String := "BuyersArm$Told"
def TX6 : u_T := fun k => match k with
  | 0 => ("BuyersArm$Told", "arms", "[I", true)
  | 1 => ("BuyersArm$Told", "fees", "[I", true)
  | 2 => ("BuyersArm$Told", "comers", "[I", true)
  | 3 => ("BuyersArm$Told", "barsOf", "[I", true)
  | 4 => ("BuyersArm$Told", "prices", "[I", true)
  | 5 => ("BuyersArm$Told", "stocks", "[I", true)
  | 6 => ("BuyersArm$Told", "people", "I", false)
  | 7 => ("BuyersArm$Told", "counters", "I", false)
  | 8 => ("BuyersArm$Told", "barredPairs", "I", false)
  | _ => ("BuyersArm$Told", "keepers", "I", false)
def tyX6 : Nat → FieldType := fun k => match k with
  | 0 => .array .int
  | 1 => .array .int
  | 2 => .array .int
  | 3 => .array .int
  | 4 => .array .int
  | 5 => .array .int
  | 6 => .int
  | 7 => .int
  | 8 => .int
  | _ => .int
abbrev wsX60 : List Cond := u_ws RX6 TX6 10
theorem nmX6 : ∀ a, a < 10 → ∀ b, b < 10 → a ≠ b → (TX6 a).2.1 ≠ (TX6 b).2.1 := by decide +kernel
theorem tyX6_ok : ∀ k, k < 10 → parseFieldDescriptor (TX6 k).2.2.1 = some (tyX6 k) := by decide +kernel
abbrev cX6_init : ByteArray := prog_8_method_1_code
def yX6_init : MethodName := ⟨RX6, "<init>", "()V"⟩
abbrev cX6_clear : ByteArray := prog_8_method_2_code
def yX6_clear : MethodName := ⟨RX6, "clear", "()V"⟩
abbrev cX6_hasPerson : ByteArray := prog_8_method_3_code
def yX6_hasPerson : MethodName := ⟨RX6, "hasPerson", "(I)Z"⟩
abbrev cX6_hasCounter : ByteArray := prog_8_method_4_code
def yX6_hasCounter : MethodName := ⟨RX6, "hasCounter", "(I)Z"⟩
abbrev cX6_bars : ByteArray := prog_8_method_5_code
def yX6_bars : MethodName := ⟨RX6, "bars", "(II)Z"⟩
abbrev cX6_isKeeper : ByteArray := prog_8_method_6_code
def yX6_isKeeper : MethodName := ⟨RX6, "isKeeper", "(I)Z"⟩
def RX7 : String := "BuyersArm$Want"
def TX7 : u_T := fun k => match k with
  | 0 => ("BuyersArm$Want", "lightest", "[[I", true)
  | 1 => ("BuyersArm$Want", "withOne", "[I", true)
  | 2 => ("BuyersArm$Want", "ells", "[I", true)
  | 3 => ("BuyersArm$Want", "highest", "I", false)
  | _ => ("BuyersArm$Want", "weight", "I", false)
def tyX7 : Nat → FieldType := fun k => match k with
  | 0 => .array (.array .int)
  | 1 => .array .int
  | 2 => .array .int
  | 3 => .int
  | _ => .int
abbrev wsX70 : List Cond := u_ws RX7 TX7 5
theorem nmX7 : ∀ a, a < 5 → ∀ b, b < 5 → a ≠ b → (TX7 a).2.1 ≠ (TX7 b).2.1 := by decide +kernel
theorem tyX7_ok : ∀ k, k < 5 → parseFieldDescriptor (TX7 k).2.2.1 = some (tyX7 k) := by decide +kernel
abbrev cX7_init : ByteArray := prog_9_method_1_code
def yX7_init : MethodName := ⟨RX7, "<init>", "()V"⟩
abbrev cX7_reckon : ByteArray := prog_9_method_2_code
def yX7_reckon : MethodName := ⟨RX7, "reckon", "(LBuyersArm$Told;LBuyersArm$Stand;II)Z"⟩
abbrev cX7_coins : ByteArray := prog_9_method_3_code
def yX7_coins : MethodName := ⟨RX7, "coins", "()I"⟩
abbrev cX7_shareOut : ByteArray := prog_9_method_4_code
def yX7_shareOut : MethodName := ⟨RX7, "shareOut", "(LBuyersArm$Told;LBuyersArm$Stand;II)V"⟩
abbrev cX7_hire : ByteArray := prog_9_method_5_code
def yX7_hire : MethodName := ⟨RX7, "hire", "(LBuyersArm$Told;I)I"⟩
abbrev cX7_fill : ByteArray := prog_9_method_6_code
def yX7_fill : MethodName := ⟨RX7, "fill", "(IIII)V"⟩
abbrev cX7_fewestOf : ByteArray := prog_9_method_7_code
def yX7_fewestOf : MethodName := ⟨RX7, "fewestOf", "([IIIIII)I"⟩
def RX8 : String := "BuyersArm"
def TX8 : u_T := fun k => match k with
  | 0 => ("BuyersArm", "signs", "LBuyersArm$Signs;", true)
  | 1 => ("BuyersArm", "reader", "LBuyersArm$Reader;", true)
  | 2 => ("BuyersArm", "told", "LBuyersArm$Told;", false)
  | 3 => ("BuyersArm", "draft", "LBuyersArm$Told;", false)
  | 4 => ("BuyersArm", "stand", "LBuyersArm$Stand;", true)
  | 5 => ("BuyersArm", "slots", "[LBuyersArm$Stand;", true)
  | 6 => ("BuyersArm", "want", "LBuyersArm$Want;", true)
  | 7 => ("BuyersArm", "exchanges", "LBuyersArm$Exchanges;", true)
  | 8 => ("BuyersArm", "piece", "LBuyersArm$Piece;", true)
  | _ => ("BuyersArm", "hidden", "LBuyersArm$Hidden;", true)
def tyX8 : Nat → FieldType := fun k => match k with
  | 0 => .object "BuyersArm$Signs"
  | 1 => .object "BuyersArm$Reader"
  | 2 => .object "BuyersArm$Told"
  | 3 => .object "BuyersArm$Told"
  | 4 => .object "BuyersArm$Stand"
  | 5 => .array (.object "BuyersArm$Stand")
  | 6 => .object "BuyersArm$Want"
  | 7 => .object "BuyersArm$Exchanges"
  | 8 => .object "BuyersArm$Piece"
  | _ => .object "BuyersArm$Hidden"
abbrev wsX80 : List Cond := u_ws RX8 TX8 10
theorem nmX8 : ∀ a, a < 10 → ∀ b, b < 10 → a ≠ b → (TX8 a).2.1 ≠ (TX8 b).2.1 := by decide +kernel
theorem tyX8_ok : ∀ k, k < 10 → parseFieldDescriptor (TX8 k).2.2.1 = some (tyX8 k) := by decide +kernel
abbrev cX8_init : ByteArray := prog_1_method_1_code
def yX8_init : MethodName := ⟨RX8, "<init>", "()V"⟩
abbrev cX8_write : ByteArray := prog_1_method_2_code
def yX8_write : MethodName := ⟨RX8, "write", "(IJ)I"⟩
abbrev cX8_wipe : ByteArray := prog_1_method_3_code
def yX8_wipe : MethodName := ⟨RX8, "wipe", "()I"⟩
abbrev cX8_fault : ByteArray := prog_1_method_4_code
def yX8_fault : MethodName := ⟨RX8, "fault", "()I"⟩
abbrev cX8_market : ByteArray := prog_1_method_5_code
def yX8_market : MethodName := ⟨RX8, "market", "()I"⟩
abbrev cX8_person : ByteArray := prog_1_method_6_code
def yX8_person : MethodName := ⟨RX8, "person", "(II)I"⟩
abbrev cX8_counter : ByteArray := prog_1_method_7_code
def yX8_counter : MethodName := ⟨RX8, "counter", "(II)I"⟩
abbrev cX8_barred : ByteArray := prog_1_method_8_code
def yX8_barred : MethodName := ⟨RX8, "barred", "(II)I"⟩
abbrev cX8_plaster : ByteArray := prog_1_method_9_code
def yX8_plaster : MethodName := ⟨RX8, "plaster", "(II)I"⟩
abbrev cX8_common : ByteArray := prog_1_method_10_code
def yX8_common : MethodName := ⟨RX8, "common", "(I)I"⟩
abbrev cX8_buy : ByteArray := prog_1_method_11_code
def yX8_buy : MethodName := ⟨RX8, "buy", "(III)I"⟩
abbrev cX8_undo : ByteArray := prog_1_method_12_code
def yX8_undo : MethodName := ⟨RX8, "undo", "()I"⟩
abbrev cX8_sale : ByteArray := prog_1_method_13_code
def yX8_sale : MethodName := ⟨RX8, "sale", "(II)I"⟩
abbrev cX8_truly : ByteArray := prog_1_method_14_code
def yX8_truly : MethodName := ⟨RX8, "truly", "(IIZ)I"⟩
abbrev cX8_cheapest : ByteArray := prog_1_method_15_code
def yX8_cheapest : MethodName := ⟨RX8, "cheapest", "(II)I"⟩
abbrev cX8_cheapestBy : ByteArray := prog_1_method_16_code
def yX8_cheapestBy : MethodName := ⟨RX8, "cheapestBy", "(III)I"⟩
abbrev cX8_exchange : ByteArray := prog_1_method_17_code
def yX8_exchange : MethodName := ⟨RX8, "exchange", "(IIIII)I"⟩
abbrev cX8_unchange : ByteArray := prog_1_method_18_code
def yX8_unchange : MethodName := ⟨RX8, "unchange", "()I"⟩
abbrev cX8_ring : ByteArray := prog_1_method_19_code
def yX8_ring : MethodName := ⟨RX8, "ring", "(IZ)J"⟩
abbrev cX8_ringAt : ByteArray := prog_1_method_20_code
def yX8_ringAt : MethodName := ⟨RX8, "ringAt", "(II)I"⟩
abbrev cX8_come : ByteArray := prog_1_method_21_code
def yX8_come : MethodName := ⟨RX8, "come", "(II)I"⟩
abbrev cX8_earned : ByteArray := prog_1_method_22_code
def yX8_earned : MethodName := ⟨RX8, "earned", "(III)I"⟩
abbrev cX8_ask : ByteArray := prog_1_method_23_code
def yX8_ask : MethodName := ⟨RX8, "ask", "(II)I"⟩
abbrev cX8_keeper : ByteArray := prog_1_method_24_code
def yX8_keeper : MethodName := ⟨RX8, "keeper", "(IZ)I"⟩
abbrev cX8_losers : ByteArray := prog_1_method_25_code
def yX8_losers : MethodName := ⟨RX8, "losers", "(I)I"⟩
abbrev cX8_fairest : ByteArray := prog_1_method_26_code
def yX8_fairest : MethodName := ⟨RX8, "fairest", "()I"⟩
abbrev cX8_cut : ByteArray := prog_1_method_27_code
def yX8_cut : MethodName := ⟨RX8, "cut", "(IIZ)I"⟩
abbrev cX8_when : ByteArray := prog_1_method_28_code
def yX8_when : MethodName := ⟨RX8, "when", "(IIII)I"⟩
abbrev cX8_held : ByteArray := prog_1_method_29_code
def yX8_held : MethodName := ⟨RX8, "held", "(IIIII)I"⟩
abbrev cX8_unheld : ByteArray := prog_1_method_30_code
def yX8_unheld : MethodName := ⟨RX8, "unheld", "()I"⟩
abbrev cX8_mayBe : ByteArray := prog_1_method_31_code
def yX8_mayBe : MethodName := ⟨RX8, "mayBe", "()I"⟩
abbrev cX8_arm : ByteArray := prog_1_method_32_code
def yX8_arm : MethodName := ⟨RX8, "arm", "(IZ)I"⟩
abbrev cX8_keep : ByteArray := prog_1_method_33_code
def yX8_keep : MethodName := ⟨RX8, "keep", "(I)I"⟩
abbrev cX8_again : ByteArray := prog_1_method_34_code
def yX8_again : MethodName := ⟨RX8, "again", "(I)I"⟩
abbrev cX8_count : ByteArray := prog_1_method_35_code
def yX8_count : MethodName := ⟨RX8, "count", "(I)I"⟩
abbrev cX8_within : ByteArray := prog_1_method_36_code
def yX8_within : MethodName := ⟨RX8, "within", "(III)Z"⟩
abbrev cX8_mayValue : ByteArray := prog_1_method_37_code
def yX8_mayValue : MethodName := ⟨RX8, "mayValue", "(II)Z"⟩
abbrev cX8_inLeastTerms : ByteArray := prog_1_method_38_code
def yX8_inLeastTerms : MethodName := ⟨RX8, "inLeastTerms", "(JJZ)J"⟩
abbrev cX8_spentBy : ByteArray := prog_1_method_39_code
def yX8_spentBy : MethodName := ⟨RX8, "spentBy", "(I)I"⟩
abbrev cX8_gotBy : ByteArray := prog_1_method_40_code
def yX8_gotBy : MethodName := ⟨RX8, "gotBy", "(I)I"⟩
abbrev cX8_broughtBy : ByteArray := prog_1_method_41_code
def yX8_broughtBy : MethodName := ⟨RX8, "broughtBy", "(III)I"⟩
abbrev cX8_losersBy : ByteArray := prog_1_method_42_code
def yX8_losersBy : MethodName := ⟨RX8, "losersBy", "(I)I"⟩
def RX9 : String := "BuyersArmModel"
def TX9 : u_T := fun k => match k with
  | 0 => ("BuyersArmModel", "thrown", "I", false)
  | 1 => ("BuyersArmModel", "text", "[I", true)
  | 2 => ("BuyersArmModel", "textSize", "I", false)
  | 3 => ("BuyersArmModel", "place", "I", false)
  | 4 => ("BuyersArmModel", "people", "I", false)
  | 5 => ("BuyersArmModel", "counters", "I", false)
  | 6 => ("BuyersArmModel", "arm", "[I", true)
  | 7 => ("BuyersArmModel", "fee", "[I", true)
  | 8 => ("BuyersArmModel", "price", "[I", true)
  | 9 => ("BuyersArmModel", "stock", "[I", true)
  | 10 => ("BuyersArmModel", "barred", "[Z", true)
  | 11 => ("BuyersArmModel", "comers", "[I", true)
  | 12 => ("BuyersArmModel", "keeps", "[Z", true)
  | 13 => ("BuyersArmModel", "common", "I", false)
  | 14 => ("BuyersArmModel", "readPeople", "I", false)
  | 15 => ("BuyersArmModel", "readCounters", "I", false)
  | 16 => ("BuyersArmModel", "readArm", "[I", true)
  | 17 => ("BuyersArmModel", "readFee", "[I", true)
  | 18 => ("BuyersArmModel", "readPrice", "[I", true)
  | 19 => ("BuyersArmModel", "readStock", "[I", true)
  | 20 => ("BuyersArmModel", "readBarred", "[Z", true)
  | 21 => ("BuyersArmModel", "sales", "I", false)
  | 22 => ("BuyersArmModel", "whoBuys", "[I", true)
  | 23 => ("BuyersArmModel", "where", "[I", true)
  | 24 => ("BuyersArmModel", "ells", "[I", true)
  | 25 => ("BuyersArmModel", "parts", "[I", true)
  | 26 => ("BuyersArmModel", "changes", "I", false)
  | 27 => ("BuyersArmModel", "from", "[I", true)
  | 28 => ("BuyersArmModel", "to", "[I", true)
  | 29 => ("BuyersArmModel", "gives", "[I", true)
  | 30 => ("BuyersArmModel", "gets", "[I", true)
  | 31 => ("BuyersArmModel", "armOf", "[I", true)
  | 32 => ("BuyersArmModel", "heldMany", "I", false)
  | 33 => ("BuyersArmModel", "heldOne", "[I", true)
  | 34 => ("BuyersArmModel", "heldE", "[I", true)
  | 35 => ("BuyersArmModel", "heldOther", "[I", true)
  | 36 => ("BuyersArmModel", "heldF", "[I", true)
  | 37 => ("BuyersArmModel", "heldSign", "[I", true)
  | 38 => ("BuyersArmModel", "kept", "[I", true)
  | 39 => ("BuyersArmModel", "isKept", "[Z", true)
  | 40 => ("BuyersArmModel", "few", "[I", true)
  | 41 => ("BuyersArmModel", "best", "[I", true)
  | 42 => ("BuyersArmModel", "tried", "[I", true)
  | 43 => ("BuyersArmModel", "ring", "[I", true)
  | 44 => ("BuyersArmModel", "ringMany", "I", false)
  | 45 => ("BuyersArmModel", "ringUp", "J", false)
  | 46 => ("BuyersArmModel", "ringDown", "J", false)
  | 47 => ("BuyersArmModel", "cuts", "[I", true)
  | 48 => ("BuyersArmModel", "low", "I", false)
  | _ => ("BuyersArmModel", "high", "I", false)
def tyX9 : Nat → FieldType := fun k => match k with
  | 0 => .int
  | 1 => .array .int
  | 2 => .int
  | 3 => .int
  | 4 => .int
  | 5 => .int
  | 6 => .array .int
  | 7 => .array .int
  | 8 => .array .int
  | 9 => .array .int
  | 10 => .array .boolean
  | 11 => .array .int
  | 12 => .array .boolean
  | 13 => .int
  | 14 => .int
  | 15 => .int
  | 16 => .array .int
  | 17 => .array .int
  | 18 => .array .int
  | 19 => .array .int
  | 20 => .array .boolean
  | 21 => .int
  | 22 => .array .int
  | 23 => .array .int
  | 24 => .array .int
  | 25 => .array .int
  | 26 => .int
  | 27 => .array .int
  | 28 => .array .int
  | 29 => .array .int
  | 30 => .array .int
  | 31 => .array .int
  | 32 => .int
  | 33 => .array .int
  | 34 => .array .int
  | 35 => .array .int
  | 36 => .array .int
  | 37 => .array .int
  | 38 => .array .int
  | 39 => .array .boolean
  | 40 => .array .int
  | 41 => .array .int
  | 42 => .array .int
  | 43 => .array .int
  | 44 => .int
  | 45 => .long
  | 46 => .long
  | 47 => .array .int
  | 48 => .int
  | _ => .int
abbrev wsX90 : List Cond := u_ws RX9 TX9 50
theorem nmX9 : ∀ a, a < 50 → ∀ b, b < 50 → a ≠ b → (TX9 a).2.1 ≠ (TX9 b).2.1 := by decide +kernel
theorem tyX9_ok : ∀ k, k < 50 → parseFieldDescriptor (TX9 k).2.2.1 = some (tyX9 k) := by decide +kernel
abbrev cX9_init : ByteArray := prog_11_method_1_code
def yX9_init : MethodName := ⟨RX9, "<init>", "()V"⟩
abbrev cX9_in : ByteArray := prog_11_method_3_code
def yX9_in : MethodName := ⟨RX9, "in", "(JJJ)Z"⟩
abbrev cX9_has : ByteArray := prog_11_method_4_code
def yX9_has : MethodName := ⟨RX9, "has", "(II)Z"⟩
abbrev cX9_noOne : ByteArray := prog_11_method_5_code
def yX9_noOne : MethodName := ⟨RX9, "noOne", "(I)Z"⟩
abbrev cX9_noCounter : ByteArray := prog_11_method_6_code
def yX9_noCounter : MethodName := ⟨RX9, "noCounter", "(I)Z"⟩
abbrev cX9_write : ByteArray := prog_11_method_7_code
def yX9_write : MethodName := ⟨RX9, "write", "(IJ)I"⟩
abbrev cX9_wipe : ByteArray := prog_11_method_8_code
def yX9_wipe : MethodName := ⟨RX9, "wipe", "()I"⟩
abbrev cX9_figure : ByteArray := prog_11_method_9_code
def yX9_figure : MethodName := ⟨RX9, "figure", "(I)I"⟩
abbrev cX9_two : ByteArray := prog_11_method_10_code
def yX9_two : MethodName := ⟨RX9, "two", "(I)I"⟩
abbrev cX9_readPerson : ByteArray := prog_11_method_11_code
def yX9_readPerson : MethodName := ⟨RX9, "readPerson", "()Z"⟩
abbrev cX9_readCounter : ByteArray := prog_11_method_12_code
def yX9_readCounter : MethodName := ⟨RX9, "readCounter", "()Z"⟩
abbrev cX9_hasLeft : ByteArray := prog_11_method_13_code
def yX9_hasLeft : MethodName := ⟨RX9, "hasLeft", "(I)Z"⟩
abbrev cX9_hasAny : ByteArray := prog_11_method_14_code
def yX9_hasAny : MethodName := ⟨RX9, "hasAny", "()Z"⟩
abbrev cX9_readBar : ByteArray := prog_11_method_15_code
def yX9_readBar : MethodName := ⟨RX9, "readBar", "()Z"⟩
abbrev cX9_readPart : ByteArray := prog_11_method_16_code
def yX9_readPart : MethodName := ⟨RX9, "readPart", "()Z"⟩
abbrev cX9_readMarket : ByteArray := prog_11_method_17_code
def yX9_readMarket : MethodName := ⟨RX9, "readMarket", "()I"⟩
abbrev cX9_fault : ByteArray := prog_11_method_18_code
def yX9_fault : MethodName := ⟨RX9, "fault", "()I"⟩
abbrev cX9_market : ByteArray := prog_11_method_19_code
def yX9_market : MethodName := ⟨RX9, "market", "()I"⟩
abbrev cX9_sumOf : ByteArray := prog_11_method_20_code
def yX9_sumOf : MethodName := ⟨RX9, "sumOf", "(III)I"⟩
abbrev cX9_person : ByteArray := prog_11_method_21_code
def yX9_person : MethodName := ⟨RX9, "person", "(II)I"⟩
abbrev cX9_counter : ByteArray := prog_11_method_22_code
def yX9_counter : MethodName := ⟨RX9, "counter", "(II)I"⟩
abbrev cX9_barred : ByteArray := prog_11_method_23_code
def yX9_barred : MethodName := ⟨RX9, "barred", "(II)I"⟩
abbrev cX9_plaster : ByteArray := prog_11_method_24_code
def yX9_plaster : MethodName := ⟨RX9, "plaster", "(II)I"⟩
abbrev cX9_common : ByteArray := prog_11_method_25_code
def yX9_common : MethodName := ⟨RX9, "common", "(I)I"⟩
abbrev cX9_buy : ByteArray := prog_11_method_26_code
def yX9_buy : MethodName := ⟨RX9, "buy", "(III)I"⟩
abbrev cX9_undo : ByteArray := prog_11_method_27_code
def yX9_undo : MethodName := ⟨RX9, "undo", "()I"⟩
abbrev cX9_sale : ByteArray := prog_11_method_28_code
def yX9_sale : MethodName := ⟨RX9, "sale", "(II)I"⟩
abbrev cX9_divisor : ByteArray := prog_11_method_29_code
def yX9_divisor : MethodName := ⟨RX9, "divisor", "(JJ)J"⟩
abbrev cX9_truly : ByteArray := prog_11_method_30_code
def yX9_truly : MethodName := ⟨RX9, "truly", "(IIZ)I"⟩
abbrev cX9_layFew : ByteArray := prog_11_method_31_code
def yX9_layFew : MethodName := ⟨RX9, "layFew", "(II)V"⟩
abbrev cX9_can : ByteArray := prog_11_method_32_code
def yX9_can : MethodName := ⟨RX9, "can", "(IIIII)Z"⟩
abbrev cX9_layWay : ByteArray := prog_11_method_33_code
def yX9_layWay : MethodName := ⟨RX9, "layWay", "(IIII)V"⟩
abbrev cX9_findCheapest : ByteArray := prog_11_method_34_code
def yX9_findCheapest : MethodName := ⟨RX9, "findCheapest", "(II)I"⟩
abbrev cX9_cheapest : ByteArray := prog_11_method_35_code
def yX9_cheapest : MethodName := ⟨RX9, "cheapest", "(II)I"⟩
abbrev cX9_cheapestBy : ByteArray := prog_11_method_36_code
def yX9_cheapestBy : MethodName := ⟨RX9, "cheapestBy", "(III)I"⟩
abbrev cX9_exchange : ByteArray := prog_11_method_37_code
def yX9_exchange : MethodName := ⟨RX9, "exchange", "(IIIII)I"⟩
abbrev cX9_unchange : ByteArray := prog_11_method_38_code
def yX9_unchange : MethodName := ⟨RX9, "unchange", "()I"⟩
abbrev cX9_isRing : ByteArray := prog_11_method_39_code
def yX9_isRing : MethodName := ⟨RX9, "isRing", "(I)Z"⟩
abbrev cX9_findRing : ByteArray := prog_11_method_40_code
def yX9_findRing : MethodName := ⟨RX9, "findRing", "(I)Z"⟩
abbrev cX9_ring : ByteArray := prog_11_method_41_code
def yX9_ring : MethodName := ⟨RX9, "ring", "(IZ)J"⟩
abbrev cX9_ringAt : ByteArray := prog_11_method_42_code
def yX9_ringAt : MethodName := ⟨RX9, "ringAt", "(II)I"⟩
abbrev cX9_come : ByteArray := prog_11_method_43_code
def yX9_come : MethodName := ⟨RX9, "come", "(II)I"⟩
abbrev cX9_earnedBy : ByteArray := prog_11_method_44_code
def yX9_earnedBy : MethodName := ⟨RX9, "earnedBy", "(III)I"⟩
abbrev cX9_earned : ByteArray := prog_11_method_45_code
def yX9_earned : MethodName := ⟨RX9, "earned", "(III)I"⟩
abbrev cX9_ask : ByteArray := prog_11_method_46_code
def yX9_ask : MethodName := ⟨RX9, "ask", "(II)I"⟩
abbrev cX9_keeper : ByteArray := prog_11_method_47_code
def yX9_keeper : MethodName := ⟨RX9, "keeper", "(IZ)I"⟩
abbrev cX9_losersBy : ByteArray := prog_11_method_48_code
def yX9_losersBy : MethodName := ⟨RX9, "losersBy", "(I)I"⟩
abbrev cX9_losers : ByteArray := prog_11_method_49_code
def yX9_losers : MethodName := ⟨RX9, "losers", "(I)I"⟩
abbrev cX9_fairest : ByteArray := prog_11_method_50_code
def yX9_fairest : MethodName := ⟨RX9, "fairest", "()I"⟩
abbrev cX9_cut : ByteArray := prog_11_method_51_code
def yX9_cut : MethodName := ⟨RX9, "cut", "(IIZ)I"⟩
abbrev cX9_when : ByteArray := prog_11_method_52_code
def yX9_when : MethodName := ⟨RX9, "when", "(IIII)I"⟩
abbrev cX9_held : ByteArray := prog_11_method_53_code
def yX9_held : MethodName := ⟨RX9, "held", "(IIIII)I"⟩
abbrev cX9_unheld : ByteArray := prog_11_method_54_code
def yX9_unheld : MethodName := ⟨RX9, "unheld", "()I"⟩
abbrev cX9_armIn : ByteArray := prog_11_method_55_code
def yX9_armIn : MethodName := ⟨RX9, "armIn", "(II)I"⟩
abbrev cX9_fits : ByteArray := prog_11_method_56_code
def yX9_fits : MethodName := ⟨RX9, "fits", "(I)Z"⟩
abbrev cX9_layRows : ByteArray := prog_11_method_57_code
def yX9_layRows : MethodName := ⟨RX9, "layRows", "(I)I"⟩
abbrev cX9_mayBe : ByteArray := prog_11_method_58_code
def yX9_mayBe : MethodName := ⟨RX9, "mayBe", "()I"⟩
abbrev cX9_arm : ByteArray := prog_11_method_59_code
def yX9_arm : MethodName := ⟨RX9, "arm", "(IZ)I"⟩
abbrev cX9_keep : ByteArray := prog_11_method_60_code
def yX9_keep : MethodName := ⟨RX9, "keep", "(I)I"⟩
abbrev cX9_again : ByteArray := prog_11_method_61_code
def yX9_again : MethodName := ⟨RX9, "again", "(I)I"⟩
abbrev cX9_count : ByteArray := prog_11_method_62_code
def yX9_count : MethodName := ⟨RX9, "count", "(I)I"⟩
def RJ6 : String := "java/lang/Integer"
def TJ6 : u_T := fun k => match k with
  | _ => ("", "", "", false)
def tyJ6 : Nat → FieldType := fun k => match k with
  | _ => .int
abbrev wsJ60 : List Cond := u_ws RJ6 TJ6 0
theorem nmJ6 : ∀ a, a < 0 → ∀ b, b < 0 → a ≠ b → (TJ6 a).2.1 ≠ (TJ6 b).2.1 := by decide +kernel
theorem tyJ6_ok : ∀ k, k < 0 → parseFieldDescriptor (TJ6 k).2.2.1 = some (tyJ6 k) := by decide +kernel
abbrev cJ6_compare_7cf53 : ByteArray := prog_12_method_40_code
def yJ6_compare_7cf53 : MethodName := ⟨RJ6, "compare", "(II)I"⟩
abbrev cJ6_bitCount_0f7a4 : ByteArray := prog_12_method_49_code
def yJ6_bitCount_0f7a4 : MethodName := ⟨RJ6, "bitCount", "(I)I"⟩
def RJ9 : String := "java/lang/Math"
def TJ9 : u_T := fun k => match k with
  | _ => ("", "", "", false)
def tyJ9 : Nat → FieldType := fun k => match k with
  | _ => .int
abbrev wsJ90 : List Cond := u_ws RJ9 TJ9 0
theorem nmJ9 : ∀ a, a < 0 → ∀ b, b < 0 → a ≠ b → (TJ9 a).2.1 ≠ (TJ9 b).2.1 := by decide +kernel
theorem tyJ9_ok : ∀ k, k < 0 → parseFieldDescriptor (TJ9 k).2.2.1 = some (tyJ9 k) := by decide +kernel
abbrev cJ9_max_7cf53 : ByteArray := prog_13_method_65_code
def yJ9_max_7cf53 : MethodName := ⟨RJ9, "max", "(II)I"⟩
abbrev cJ9_min_7cf53 : ByteArray := prog_13_method_69_code
def yJ9_min_7cf53 : MethodName := ⟨RJ9, "min", "(II)I"⟩
def RJ10 : String := "java/lang/System"
def TJ10 : u_T := fun k => match k with
  | _ => ("", "", "", false)
def tyJ10 : Nat → FieldType := fun k => match k with
  | _ => .int
abbrev wsJ100 : List Cond := u_ws RJ10 TJ10 0
theorem nmJ10 : ∀ a, a < 0 → ∀ b, b < 0 → a ≠ b → (TJ10 a).2.1 ≠ (TJ10 b).2.1 := by decide +kernel
theorem tyJ10_ok : ∀ k, k < 0 → parseFieldDescriptor (TJ10 k).2.2.1 = some (tyJ10 k) := by decide +kernel
def RJ7 : String := "java/util/Arrays"
def TJ7 : u_T := fun k => match k with
  | _ => ("", "", "", false)
def tyJ7 : Nat → FieldType := fun k => match k with
  | _ => .int
abbrev wsJ70 : List Cond := u_ws RJ7 TJ7 0
theorem nmJ7 : ∀ a, a < 0 → ∀ b, b < 0 → a ≠ b → (TJ7 a).2.1 ≠ (TJ7 b).2.1 := by decide +kernel
theorem tyJ7_ok : ∀ k, k < 0 → parseFieldDescriptor (TJ7 k).2.2.1 = some (tyJ7 k) := by decide +kernel
abbrev cJ7_fill_53178 : ByteArray := prog_15_method_103_code
def yJ7_fill_53178 : MethodName := ⟨RJ7, "fill", "([II)V"⟩
def RL : String := "BuyersArmLaw"
abbrev cL_law : ByteArray := code
def yL_law : MethodName := ⟨RL, "law", "([I)Z"⟩
abbrev vwCl : List vw_C := [(RX0, TX0, 10), (RX1, TX1, 4), (RX2, TX2, 3), (RX3, TX3, 4), (RX4, TX4, 2), (RX5, TX5, 9), (RX6, TX6, 10), (RX7, TX7, 5), (RX8, TX8, 10), (RX9, TX9, 50)]
end
section
/-- the words that stay as they are, whatever runs -/
def gtb : List Cond := lw_tbl.filter goodWord
theorem gtb_of {w : Cond} (h : w ∈ lw_tbl) (hg : goodWord w = true) : w ∈ gtb := List.mem_filter.mpr ⟨h, hg⟩
theorem tb1 : ∀ w ∈ tables_1_1, w ∈ lw_tbl := fun _ h => List.mem_append_right _ (List.mem_append_left _ h)
theorem tb2 : ∀ w ∈ tables_1_2, w ∈ lw_tbl := fun _ h => List.mem_append_right _ (List.mem_append_right _ (List.mem_append_left _ h))
theorem tb3 : ∀ w ∈ tables_1_3, w ∈ lw_tbl := fun _ h => List.mem_append_right _ (List.mem_append_right _ (List.mem_append_right _ (List.mem_append_left _ h)))
theorem tb4 : ∀ w ∈ tables_1_4, w ∈ lw_tbl := fun _ h => List.mem_append_right _ (List.mem_append_right _ (List.mem_append_right _ (List.mem_append_right _ (List.mem_append_left _ h))))
theorem tb5 : ∀ w ∈ tables_1_5, w ∈ lw_tbl := fun _ h => List.mem_append_right _ (List.mem_append_right _ (List.mem_append_right _ (List.mem_append_right _ (List.mem_append_right _ (h)))))
theorem w1_0 : (Jvm.Cond.initialized "BuyersArmLaw") ∈ gtb := gtb_of (tb1 _ (List.mem_of_getElem? (i := 0) rfl)) rfl
theorem w1_1 : (Jvm.Cond.initialized "BuyersArm") ∈ gtb := gtb_of (tb1 _ (List.mem_of_getElem? (i := 1) rfl)) rfl
theorem w1_2 : (Jvm.Cond.initialized "BuyersArm$Signs") ∈ gtb := gtb_of (tb1 _ (List.mem_of_getElem? (i := 2) rfl)) rfl
theorem w1_3 : (Jvm.Cond.initialized "BuyersArm$Reader") ∈ gtb := gtb_of (tb1 _ (List.mem_of_getElem? (i := 3) rfl)) rfl
theorem w1_4 : (Jvm.Cond.initialized "BuyersArm$Told") ∈ gtb := gtb_of (tb1 _ (List.mem_of_getElem? (i := 4) rfl)) rfl
theorem w1_5 : (Jvm.Cond.initialized "BuyersArm$Stand") ∈ gtb := gtb_of (tb1 _ (List.mem_of_getElem? (i := 5) rfl)) rfl
theorem w1_6 : (Jvm.Cond.initialized "BuyersArm$Want") ∈ gtb := gtb_of (tb1 _ (List.mem_of_getElem? (i := 6) rfl)) rfl
theorem w1_7 : (Jvm.Cond.initialized "BuyersArm$Exchanges") ∈ gtb := gtb_of (tb1 _ (List.mem_of_getElem? (i := 7) rfl)) rfl
theorem w1_8 : (Jvm.Cond.initialized "BuyersArm$Piece") ∈ gtb := gtb_of (tb1 _ (List.mem_of_getElem? (i := 8) rfl)) rfl
theorem w1_9 : (Jvm.Cond.initialized "BuyersArm$Hidden") ∈ gtb := gtb_of (tb1 _ (List.mem_of_getElem? (i := 9) rfl)) rfl
theorem w1_10 : (Jvm.Cond.initialized "BuyersArmModel") ∈ gtb := gtb_of (tb1 _ (List.mem_of_getElem? (i := 10) rfl)) rfl
theorem w1_11 : (Jvm.Cond.initialized "java/util/Arrays") ∈ gtb := gtb_of (tb1 _ (List.mem_of_getElem? (i := 11) rfl)) rfl
theorem w1_12 : (Jvm.Cond.initialized "java/lang/Integer") ∈ gtb := gtb_of (tb1 _ (List.mem_of_getElem? (i := 12) rfl)) rfl
theorem w1_13 : (Jvm.Cond.initialized "java/lang/System") ∈ gtb := gtb_of (tb1 _ (List.mem_of_getElem? (i := 13) rfl)) rfl
theorem w1_14 : (Jvm.Cond.initialized "java/lang/Math") ∈ gtb := gtb_of (tb1 _ (List.mem_of_getElem? (i := 14) rfl)) rfl
theorem w1_15 : (Jvm.Cond.classLink "BuyersArmLaw" (7 : Nat) "BuyersArm") ∈ gtb := gtb_of (tb1 _ (List.mem_of_getElem? (i := 15) rfl)) rfl
theorem w1_16 : (Jvm.Cond.instantiable "BuyersArm" (10 : Nat)) ∈ gtb := gtb_of (tb1 _ (List.mem_of_getElem? (i := 16) rfl)) rfl
theorem w1_17 : (Jvm.Cond.methodLink "BuyersArmLaw" (9 : Nat) ({ cls := "BuyersArm", name := "<init>", desc := "()V" } : Jvm.MethodName)) ∈ gtb := gtb_of (tb1 _ (List.mem_of_getElem? (i := 17) rfl)) rfl
theorem w1_18 : (Jvm.Cond.instanceMethod ({ cls := "BuyersArm", name := "<init>", desc := "()V" } : Jvm.MethodName)) ∈ gtb := gtb_of (tb1 _ (List.mem_of_getElem? (i := 18) rfl)) rfl
theorem w1_19 : (Jvm.Cond.code ({ cls := "BuyersArm", name := "<init>", desc := "()V" } : Jvm.MethodName) prog_1_method_1_code (1 : Nat) (Option.none : Option Jvm.ClassFile.FieldType)) ∈ gtb := gtb_of (tb1 _ (List.mem_of_getElem? (i := 19) rfl)) rfl
theorem w1_20 : (Jvm.Cond.methodLink "BuyersArm" (3 : Nat) ({ cls := "java/lang/Object", name := "<init>", desc := "()V" } : Jvm.MethodName)) ∈ gtb := gtb_of (tb1 _ (List.mem_of_getElem? (i := 20) rfl)) rfl
theorem w1_21 : (Jvm.Cond.instanceMethod ({ cls := "java/lang/Object", name := "<init>", desc := "()V" } : Jvm.MethodName)) ∈ gtb := gtb_of (tb1 _ (List.mem_of_getElem? (i := 21) rfl)) rfl
theorem w1_22 : (Jvm.Cond.code ({ cls := "java/lang/Object", name := "<init>", desc := "()V" } : Jvm.MethodName) object_method_1_code (1 : Nat) (Option.none : Option Jvm.ClassFile.FieldType)) ∈ gtb := gtb_of (tb1 _ (List.mem_of_getElem? (i := 22) rfl)) rfl
theorem w1_23 : (Jvm.Cond.classLink "BuyersArm" (9 : Nat) "BuyersArm$Signs") ∈ gtb := gtb_of (tb1 _ (List.mem_of_getElem? (i := 23) rfl)) rfl
theorem w1_24 : (Jvm.Cond.instantiable "BuyersArm$Signs" (2 : Nat)) ∈ gtb := gtb_of (tb1 _ (List.mem_of_getElem? (i := 24) rfl)) rfl
theorem w1_25 : (Jvm.Cond.methodLinkNest "BuyersArm" (11 : Nat) ({ cls := "BuyersArm$Signs", name := "<init>", desc := "()V" } : Jvm.MethodName) "BuyersArm") ∈ lw_tbl := tb1 _ (List.mem_of_getElem? (i := 25) rfl)
theorem w1_26 : (Jvm.Cond.instanceMethod ({ cls := "BuyersArm$Signs", name := "<init>", desc := "()V" } : Jvm.MethodName)) ∈ gtb := gtb_of (tb1 _ (List.mem_of_getElem? (i := 26) rfl)) rfl
theorem w1_27 : (Jvm.Cond.code ({ cls := "BuyersArm$Signs", name := "<init>", desc := "()V" } : Jvm.MethodName) prog_6_method_1_code (1 : Nat) (Option.none : Option Jvm.ClassFile.FieldType)) ∈ gtb := gtb_of (tb1 _ (List.mem_of_getElem? (i := 27) rfl)) rfl
theorem w1_28 : (Jvm.Cond.methodLink "BuyersArm$Signs" (3 : Nat) ({ cls := "java/lang/Object", name := "<init>", desc := "()V" } : Jvm.MethodName)) ∈ gtb := gtb_of (tb1 _ (List.mem_of_getElem? (i := 28) rfl)) rfl
theorem w1_29 : (Jvm.Cond.fieldLink "BuyersArm$Signs" (9 : Nat) "BuyersArm$Signs" "row" "[I") ∈ gtb := gtb_of (tb1 _ (List.mem_of_getElem? (i := 29) rfl)) rfl
theorem w1_30 : (Jvm.Cond.fieldLink "BuyersArm$Reader" (25 : Nat) "BuyersArm$Signs" "row" "[I") ∈ gtb := gtb_of (tb1 _ (List.mem_of_getElem? (i := 30) rfl)) rfl
theorem w1_31 : (Jvm.Cond.fieldLink "BuyersArm$Signs" (15 : Nat) "BuyersArm$Signs" "length" "I") ∈ gtb := gtb_of (tb1 _ (List.mem_of_getElem? (i := 31) rfl)) rfl
theorem w1_32 : (Jvm.Cond.fieldLink "BuyersArm$Reader" (20 : Nat) "BuyersArm$Signs" "length" "I") ∈ gtb := gtb_of (tb1 _ (List.mem_of_getElem? (i := 32) rfl)) rfl
theorem w1_33 : (Jvm.Cond.fieldLink "BuyersArm" (76 : Nat) "BuyersArm$Signs" "length" "I") ∈ gtb := gtb_of (tb1 _ (List.mem_of_getElem? (i := 33) rfl)) rfl
theorem w1_34 : (Jvm.Cond.laysFinal "BuyersArm$Signs" "BuyersArm$Signs" "row" "[I") ∈ gtb := gtb_of (tb1 _ (List.mem_of_getElem? (i := 34) rfl)) rfl
theorem w1_36 : (Jvm.Cond.lays "BuyersArm$Signs" "BuyersArm$Signs" "length" "I") ∈ gtb := gtb_of (tb1 _ (List.mem_of_getElem? (i := 36) rfl)) rfl
theorem w1_39 : (Jvm.Cond.arrayClass Jvm.ClassFile.FieldType.int) ∈ gtb := gtb_of (tb1 _ (List.mem_of_getElem? (i := 39) rfl)) rfl
theorem w1_40 : (Jvm.Cond.classLink "BuyersArm" (16 : Nat) "BuyersArm$Reader") ∈ gtb := gtb_of (tb1 _ (List.mem_of_getElem? (i := 40) rfl)) rfl
theorem w1_41 : (Jvm.Cond.instantiable "BuyersArm$Reader" (4 : Nat)) ∈ gtb := gtb_of (tb1 _ (List.mem_of_getElem? (i := 41) rfl)) rfl
theorem w1_42 : (Jvm.Cond.methodLinkNest "BuyersArm" (18 : Nat) ({ cls := "BuyersArm$Reader", name := "<init>", desc := "()V" } : Jvm.MethodName) "BuyersArm") ∈ lw_tbl := tb1 _ (List.mem_of_getElem? (i := 42) rfl)
theorem w1_43 : (Jvm.Cond.instanceMethod ({ cls := "BuyersArm$Reader", name := "<init>", desc := "()V" } : Jvm.MethodName)) ∈ gtb := gtb_of (tb1 _ (List.mem_of_getElem? (i := 43) rfl)) rfl
theorem w1_44 : (Jvm.Cond.code ({ cls := "BuyersArm$Reader", name := "<init>", desc := "()V" } : Jvm.MethodName) prog_5_method_1_code (1 : Nat) (Option.none : Option Jvm.ClassFile.FieldType)) ∈ gtb := gtb_of (tb1 _ (List.mem_of_getElem? (i := 44) rfl)) rfl
theorem w1_45 : (Jvm.Cond.methodLink "BuyersArm$Reader" (3 : Nat) ({ cls := "java/lang/Object", name := "<init>", desc := "()V" } : Jvm.MethodName)) ∈ gtb := gtb_of (tb1 _ (List.mem_of_getElem? (i := 45) rfl)) rfl
theorem w1_46 : (Jvm.Cond.fieldLink "BuyersArm$Reader" (16 : Nat) "BuyersArm$Reader" "part" "I") ∈ gtb := gtb_of (tb1 _ (List.mem_of_getElem? (i := 46) rfl)) rfl
theorem w1_47 : (Jvm.Cond.fieldLink "BuyersArm$Reader" (36 : Nat) "BuyersArm$Reader" "digits" "I") ∈ gtb := gtb_of (tb1 _ (List.mem_of_getElem? (i := 47) rfl)) rfl
theorem w1_48 : (Jvm.Cond.fieldLink "BuyersArm$Reader" (48 : Nat) "BuyersArm$Reader" "number" "I") ∈ gtb := gtb_of (tb1 _ (List.mem_of_getElem? (i := 48) rfl)) rfl
theorem w1_49 : (Jvm.Cond.fieldLink "BuyersArm$Reader" (72 : Nat) "BuyersArm$Reader" "barredPerson" "I") ∈ gtb := gtb_of (tb1 _ (List.mem_of_getElem? (i := 49) rfl)) rfl
theorem w1_50 : (Jvm.Cond.lays "BuyersArm$Reader" "BuyersArm$Reader" "part" "I") ∈ gtb := gtb_of (tb1 _ (List.mem_of_getElem? (i := 50) rfl)) rfl
theorem w1_52 : (Jvm.Cond.lays "BuyersArm$Reader" "BuyersArm$Reader" "digits" "I") ∈ gtb := gtb_of (tb1 _ (List.mem_of_getElem? (i := 52) rfl)) rfl
theorem w1_54 : (Jvm.Cond.lays "BuyersArm$Reader" "BuyersArm$Reader" "number" "I") ∈ gtb := gtb_of (tb1 _ (List.mem_of_getElem? (i := 54) rfl)) rfl
theorem w1_56 : (Jvm.Cond.lays "BuyersArm$Reader" "BuyersArm$Reader" "barredPerson" "I") ∈ gtb := gtb_of (tb1 _ (List.mem_of_getElem? (i := 56) rfl)) rfl
theorem w1_59 : (Jvm.Cond.classLink "BuyersArm" (23 : Nat) "BuyersArm$Told") ∈ gtb := gtb_of (tb1 _ (List.mem_of_getElem? (i := 59) rfl)) rfl
theorem w1_60 : (Jvm.Cond.instantiable "BuyersArm$Told" (10 : Nat)) ∈ gtb := gtb_of (tb1 _ (List.mem_of_getElem? (i := 60) rfl)) rfl
theorem w1_61 : (Jvm.Cond.methodLinkNest "BuyersArm" (25 : Nat) ({ cls := "BuyersArm$Told", name := "<init>", desc := "()V" } : Jvm.MethodName) "BuyersArm") ∈ lw_tbl := tb1 _ (List.mem_of_getElem? (i := 61) rfl)
theorem w1_62 : (Jvm.Cond.instanceMethod ({ cls := "BuyersArm$Told", name := "<init>", desc := "()V" } : Jvm.MethodName)) ∈ gtb := gtb_of (tb1 _ (List.mem_of_getElem? (i := 62) rfl)) rfl
theorem w1_63 : (Jvm.Cond.code ({ cls := "BuyersArm$Told", name := "<init>", desc := "()V" } : Jvm.MethodName) prog_8_method_1_code (1 : Nat) (Option.none : Option Jvm.ClassFile.FieldType)) ∈ gtb := gtb_of (tb1 _ (List.mem_of_getElem? (i := 63) rfl)) rfl
theorem w1_64 : (Jvm.Cond.methodLink "BuyersArm$Told" (3 : Nat) ({ cls := "java/lang/Object", name := "<init>", desc := "()V" } : Jvm.MethodName)) ∈ gtb := gtb_of (tb1 _ (List.mem_of_getElem? (i := 64) rfl)) rfl
theorem w1_65 : (Jvm.Cond.fieldLink "BuyersArm$Told" (9 : Nat) "BuyersArm$Told" "arms" "[I") ∈ gtb := gtb_of (tb1 _ (List.mem_of_getElem? (i := 65) rfl)) rfl
theorem w1_66 : (Jvm.Cond.fieldLink "BuyersArm$Stand" (34 : Nat) "BuyersArm$Told" "arms" "[I") ∈ gtb := gtb_of (tb1 _ (List.mem_of_getElem? (i := 66) rfl)) rfl
theorem w1_67 : (Jvm.Cond.fieldLink "BuyersArm$Reader" (60 : Nat) "BuyersArm$Told" "arms" "[I") ∈ gtb := gtb_of (tb1 _ (List.mem_of_getElem? (i := 67) rfl)) rfl
theorem w1_68 : (Jvm.Cond.fieldLink "BuyersArm$Told" (15 : Nat) "BuyersArm$Told" "fees" "[I") ∈ gtb := gtb_of (tb1 _ (List.mem_of_getElem? (i := 68) rfl)) rfl
theorem w1_69 : (Jvm.Cond.fieldLink "BuyersArm$Want" (80 : Nat) "BuyersArm$Told" "fees" "[I") ∈ gtb := gtb_of (tb1 _ (List.mem_of_getElem? (i := 69) rfl)) rfl
theorem w1_70 : (Jvm.Cond.fieldLink "BuyersArm$Reader" (63 : Nat) "BuyersArm$Told" "fees" "[I") ∈ gtb := gtb_of (tb1 _ (List.mem_of_getElem? (i := 70) rfl)) rfl
theorem w1_71 : (Jvm.Cond.fieldLink "BuyersArm" (107 : Nat) "BuyersArm$Told" "fees" "[I") ∈ gtb := gtb_of (tb1 _ (List.mem_of_getElem? (i := 71) rfl)) rfl
theorem w1_72 : (Jvm.Cond.fieldLink "BuyersArm$Told" (18 : Nat) "BuyersArm$Told" "comers" "[I") ∈ gtb := gtb_of (tb1 _ (List.mem_of_getElem? (i := 72) rfl)) rfl
theorem w1_73 : (Jvm.Cond.fieldLink "BuyersArm" (117 : Nat) "BuyersArm$Told" "comers" "[I") ∈ gtb := gtb_of (tb1 _ (List.mem_of_getElem? (i := 73) rfl)) rfl
theorem w1_74 : (Jvm.Cond.fieldLink "BuyersArm$Told" (21 : Nat) "BuyersArm$Told" "barsOf" "[I") ∈ gtb := gtb_of (tb1 _ (List.mem_of_getElem? (i := 74) rfl)) rfl
theorem w1_75 : (Jvm.Cond.fieldLink "BuyersArm$Reader" (79 : Nat) "BuyersArm$Told" "barsOf" "[I") ∈ gtb := gtb_of (tb1 _ (List.mem_of_getElem? (i := 75) rfl)) rfl
theorem w1_76 : (Jvm.Cond.fieldLink "BuyersArm$Told" (24 : Nat) "BuyersArm$Told" "prices" "[I") ∈ gtb := gtb_of (tb1 _ (List.mem_of_getElem? (i := 76) rfl)) rfl
theorem w1_77 : (Jvm.Cond.fieldLink "BuyersArm$Want" (67 : Nat) "BuyersArm$Told" "prices" "[I") ∈ gtb := gtb_of (tb1 _ (List.mem_of_getElem? (i := 77) rfl)) rfl
theorem w1_78 : (Jvm.Cond.fieldLink "BuyersArm$Reader" (66 : Nat) "BuyersArm$Told" "prices" "[I") ∈ gtb := gtb_of (tb1 _ (List.mem_of_getElem? (i := 78) rfl)) rfl
theorem w1_79 : (Jvm.Cond.fieldLink "BuyersArm" (126 : Nat) "BuyersArm$Told" "prices" "[I") ∈ gtb := gtb_of (tb1 _ (List.mem_of_getElem? (i := 79) rfl)) rfl
theorem w1_80 : (Jvm.Cond.fieldLink "BuyersArm$Told" (27 : Nat) "BuyersArm$Told" "stocks" "[I") ∈ gtb := gtb_of (tb1 _ (List.mem_of_getElem? (i := 80) rfl)) rfl
theorem w1_81 : (Jvm.Cond.fieldLink "BuyersArm$Stand" (43 : Nat) "BuyersArm$Told" "stocks" "[I") ∈ gtb := gtb_of (tb1 _ (List.mem_of_getElem? (i := 81) rfl)) rfl
theorem w1_82 : (Jvm.Cond.fieldLink "BuyersArm$Reader" (69 : Nat) "BuyersArm$Told" "stocks" "[I") ∈ gtb := gtb_of (tb1 _ (List.mem_of_getElem? (i := 82) rfl)) rfl
theorem w1_83 : (Jvm.Cond.fieldLink "BuyersArm$Told" (30 : Nat) "BuyersArm$Told" "people" "I") ∈ gtb := gtb_of (tb1 _ (List.mem_of_getElem? (i := 83) rfl)) rfl
theorem w1_84 : (Jvm.Cond.fieldLink "BuyersArm$Want" (38 : Nat) "BuyersArm$Told" "people" "I") ∈ gtb := gtb_of (tb1 _ (List.mem_of_getElem? (i := 84) rfl)) rfl
theorem w1_85 : (Jvm.Cond.fieldLink "BuyersArm$Reader" (51 : Nat) "BuyersArm$Told" "people" "I") ∈ gtb := gtb_of (tb1 _ (List.mem_of_getElem? (i := 85) rfl)) rfl
theorem w1_86 : (Jvm.Cond.fieldLink "BuyersArm" (96 : Nat) "BuyersArm$Told" "people" "I") ∈ gtb := gtb_of (tb1 _ (List.mem_of_getElem? (i := 86) rfl)) rfl
theorem w1_87 : (Jvm.Cond.fieldLink "BuyersArm$Told" (34 : Nat) "BuyersArm$Told" "counters" "I") ∈ gtb := gtb_of (tb1 _ (List.mem_of_getElem? (i := 87) rfl)) rfl
theorem w1_88 : (Jvm.Cond.fieldLink "BuyersArm$Reader" (54 : Nat) "BuyersArm$Told" "counters" "I") ∈ gtb := gtb_of (tb1 _ (List.mem_of_getElem? (i := 88) rfl)) rfl
theorem w1_89 : (Jvm.Cond.fieldLink "BuyersArm" (266 : Nat) "BuyersArm$Told" "counters" "I") ∈ gtb := gtb_of (tb1 _ (List.mem_of_getElem? (i := 89) rfl)) rfl
theorem w1_90 : (Jvm.Cond.fieldLink "BuyersArm$Told" (37 : Nat) "BuyersArm$Told" "barredPairs" "I") ∈ gtb := gtb_of (tb1 _ (List.mem_of_getElem? (i := 90) rfl)) rfl
theorem w1_91 : (Jvm.Cond.fieldLink "BuyersArm$Reader" (57 : Nat) "BuyersArm$Told" "barredPairs" "I") ∈ gtb := gtb_of (tb1 _ (List.mem_of_getElem? (i := 91) rfl)) rfl
theorem w1_92 : (Jvm.Cond.fieldLink "BuyersArm$Told" (40 : Nat) "BuyersArm$Told" "keepers" "I") ∈ gtb := gtb_of (tb1 _ (List.mem_of_getElem? (i := 92) rfl)) rfl
theorem w1_93 : (Jvm.Cond.fieldLink "BuyersArm" (221 : Nat) "BuyersArm$Told" "keepers" "I") ∈ gtb := gtb_of (tb1 _ (List.mem_of_getElem? (i := 93) rfl)) rfl
theorem w1_94 : (Jvm.Cond.laysFinal "BuyersArm$Told" "BuyersArm$Told" "arms" "[I") ∈ gtb := gtb_of (tb1 _ (List.mem_of_getElem? (i := 94) rfl)) rfl
theorem w1_96 : (Jvm.Cond.laysFinal "BuyersArm$Told" "BuyersArm$Told" "fees" "[I") ∈ gtb := gtb_of (tb1 _ (List.mem_of_getElem? (i := 96) rfl)) rfl
theorem w1_98 : (Jvm.Cond.laysFinal "BuyersArm$Told" "BuyersArm$Told" "comers" "[I") ∈ gtb := gtb_of (tb1 _ (List.mem_of_getElem? (i := 98) rfl)) rfl
theorem w1_100 : (Jvm.Cond.laysFinal "BuyersArm$Told" "BuyersArm$Told" "barsOf" "[I") ∈ gtb := gtb_of (tb1 _ (List.mem_of_getElem? (i := 100) rfl)) rfl
theorem w1_102 : (Jvm.Cond.laysFinal "BuyersArm$Told" "BuyersArm$Told" "prices" "[I") ∈ gtb := gtb_of (tb1 _ (List.mem_of_getElem? (i := 102) rfl)) rfl
theorem w1_104 : (Jvm.Cond.laysFinal "BuyersArm$Told" "BuyersArm$Told" "stocks" "[I") ∈ gtb := gtb_of (tb1 _ (List.mem_of_getElem? (i := 104) rfl)) rfl
theorem w1_106 : (Jvm.Cond.lays "BuyersArm$Told" "BuyersArm$Told" "people" "I") ∈ gtb := gtb_of (tb1 _ (List.mem_of_getElem? (i := 106) rfl)) rfl
theorem w1_108 : (Jvm.Cond.lays "BuyersArm$Told" "BuyersArm$Told" "counters" "I") ∈ gtb := gtb_of (tb1 _ (List.mem_of_getElem? (i := 108) rfl)) rfl
theorem w1_110 : (Jvm.Cond.lays "BuyersArm$Told" "BuyersArm$Told" "barredPairs" "I") ∈ gtb := gtb_of (tb1 _ (List.mem_of_getElem? (i := 110) rfl)) rfl
theorem w1_112 : (Jvm.Cond.lays "BuyersArm$Told" "BuyersArm$Told" "keepers" "I") ∈ gtb := gtb_of (tb1 _ (List.mem_of_getElem? (i := 112) rfl)) rfl
theorem w1_115 : (Jvm.Cond.classLink "BuyersArm" (33 : Nat) "BuyersArm$Stand") ∈ gtb := gtb_of (tb1 _ (List.mem_of_getElem? (i := 115) rfl)) rfl
theorem w1_116 : (Jvm.Cond.instantiable "BuyersArm$Stand" (9 : Nat)) ∈ gtb := gtb_of (tb1 _ (List.mem_of_getElem? (i := 116) rfl)) rfl
theorem w1_117 : (Jvm.Cond.methodLinkNest "BuyersArm" (35 : Nat) ({ cls := "BuyersArm$Stand", name := "<init>", desc := "()V" } : Jvm.MethodName) "BuyersArm") ∈ lw_tbl := tb1 _ (List.mem_of_getElem? (i := 117) rfl)
theorem w1_118 : (Jvm.Cond.instanceMethod ({ cls := "BuyersArm$Stand", name := "<init>", desc := "()V" } : Jvm.MethodName)) ∈ gtb := gtb_of (tb1 _ (List.mem_of_getElem? (i := 118) rfl)) rfl
theorem w1_119 : (Jvm.Cond.code ({ cls := "BuyersArm$Stand", name := "<init>", desc := "()V" } : Jvm.MethodName) prog_7_method_1_code (1 : Nat) (Option.none : Option Jvm.ClassFile.FieldType)) ∈ gtb := gtb_of (tb1 _ (List.mem_of_getElem? (i := 119) rfl)) rfl
theorem w1_120 : (Jvm.Cond.methodLink "BuyersArm$Stand" (3 : Nat) ({ cls := "java/lang/Object", name := "<init>", desc := "()V" } : Jvm.MethodName)) ∈ gtb := gtb_of (tb1 _ (List.mem_of_getElem? (i := 120) rfl)) rfl
theorem w1_121 : (Jvm.Cond.fieldLink "BuyersArm$Stand" (9 : Nat) "BuyersArm$Stand" "arms" "[I") ∈ gtb := gtb_of (tb1 _ (List.mem_of_getElem? (i := 121) rfl)) rfl
theorem w1_122 : (Jvm.Cond.fieldLink "BuyersArm$Want" (60 : Nat) "BuyersArm$Stand" "arms" "[I") ∈ gtb := gtb_of (tb1 _ (List.mem_of_getElem? (i := 122) rfl)) rfl
theorem w1_123 : (Jvm.Cond.fieldLink "BuyersArm" (103 : Nat) "BuyersArm$Stand" "arms" "[I") ∈ gtb := gtb_of (tb1 _ (List.mem_of_getElem? (i := 123) rfl)) rfl
theorem w1_124 : (Jvm.Cond.fieldLink "BuyersArm$Stand" (15 : Nat) "BuyersArm$Stand" "stocks" "[I") ∈ gtb := gtb_of (tb1 _ (List.mem_of_getElem? (i := 124) rfl)) rfl
theorem w1_125 : (Jvm.Cond.fieldLink "BuyersArm$Want" (23 : Nat) "BuyersArm$Stand" "stocks" "[I") ∈ gtb := gtb_of (tb1 _ (List.mem_of_getElem? (i := 125) rfl)) rfl
theorem w1_126 : (Jvm.Cond.fieldLink "BuyersArm" (129 : Nat) "BuyersArm$Stand" "stocks" "[I") ∈ gtb := gtb_of (tb1 _ (List.mem_of_getElem? (i := 126) rfl)) rfl
theorem w1_127 : (Jvm.Cond.fieldLink "BuyersArm$Stand" (18 : Nat) "BuyersArm$Stand" "buyers" "[I") ∈ gtb := gtb_of (tb1 _ (List.mem_of_getElem? (i := 127) rfl)) rfl
theorem w1_128 : (Jvm.Cond.fieldLink "BuyersArm" (156 : Nat) "BuyersArm$Stand" "buyers" "[I") ∈ gtb := gtb_of (tb1 _ (List.mem_of_getElem? (i := 128) rfl)) rfl
theorem w1_129 : (Jvm.Cond.fieldLink "BuyersArm$Stand" (21 : Nat) "BuyersArm$Stand" "sellers" "[I") ∈ gtb := gtb_of (tb1 _ (List.mem_of_getElem? (i := 129) rfl)) rfl
theorem w1_130 : (Jvm.Cond.fieldLink "BuyersArm" (159 : Nat) "BuyersArm$Stand" "sellers" "[I") ∈ gtb := gtb_of (tb1 _ (List.mem_of_getElem? (i := 130) rfl)) rfl
theorem w1_131 : (Jvm.Cond.fieldLink "BuyersArm$Stand" (24 : Nat) "BuyersArm$Stand" "ells" "[I") ∈ gtb := gtb_of (tb1 _ (List.mem_of_getElem? (i := 131) rfl)) rfl
theorem w1_132 : (Jvm.Cond.fieldLink "BuyersArm" (162 : Nat) "BuyersArm$Stand" "ells" "[I") ∈ gtb := gtb_of (tb1 _ (List.mem_of_getElem? (i := 132) rfl)) rfl
theorem w1_133 : (Jvm.Cond.fieldLink "BuyersArm$Stand" (27 : Nat) "BuyersArm$Stand" "parts" "[I") ∈ gtb := gtb_of (tb1 _ (List.mem_of_getElem? (i := 133) rfl)) rfl
theorem w1_134 : (Jvm.Cond.fieldLink "BuyersArm" (165 : Nat) "BuyersArm$Stand" "parts" "[I") ∈ gtb := gtb_of (tb1 _ (List.mem_of_getElem? (i := 134) rfl)) rfl
theorem w1_135 : (Jvm.Cond.fieldLink "BuyersArm$Stand" (44 : Nat) "BuyersArm$Stand" "sales" "I") ∈ gtb := gtb_of (tb1 _ (List.mem_of_getElem? (i := 135) rfl)) rfl
theorem w1_136 : (Jvm.Cond.fieldLink "BuyersArm" (146 : Nat) "BuyersArm$Stand" "sales" "I") ∈ gtb := gtb_of (tb1 _ (List.mem_of_getElem? (i := 136) rfl)) rfl
theorem w1_137 : (Jvm.Cond.fieldLink "BuyersArm$Stand" (30 : Nat) "BuyersArm$Stand" "commonEll" "I") ∈ gtb := gtb_of (tb1 _ (List.mem_of_getElem? (i := 137) rfl)) rfl
theorem w1_138 : (Jvm.Cond.fieldLink "BuyersArm" (143 : Nat) "BuyersArm$Stand" "commonEll" "I") ∈ gtb := gtb_of (tb1 _ (List.mem_of_getElem? (i := 138) rfl)) rfl
theorem w1_139 : (Jvm.Cond.fieldLink "BuyersArm" (92 : Nat) "BuyersArm$Stand" "isKept" "Z") ∈ gtb := gtb_of (tb1 _ (List.mem_of_getElem? (i := 139) rfl)) rfl
theorem w1_140 : (Jvm.Cond.laysFinal "BuyersArm$Stand" "BuyersArm$Stand" "arms" "[I") ∈ gtb := gtb_of (tb1 _ (List.mem_of_getElem? (i := 140) rfl)) rfl
theorem w1_142 : (Jvm.Cond.laysFinal "BuyersArm$Stand" "BuyersArm$Stand" "stocks" "[I") ∈ gtb := gtb_of (tb1 _ (List.mem_of_getElem? (i := 142) rfl)) rfl
theorem w1_144 : (Jvm.Cond.laysFinal "BuyersArm$Stand" "BuyersArm$Stand" "buyers" "[I") ∈ gtb := gtb_of (tb1 _ (List.mem_of_getElem? (i := 144) rfl)) rfl
theorem w1_146 : (Jvm.Cond.laysFinal "BuyersArm$Stand" "BuyersArm$Stand" "sellers" "[I") ∈ gtb := gtb_of (tb1 _ (List.mem_of_getElem? (i := 146) rfl)) rfl
theorem w1_148 : (Jvm.Cond.laysFinal "BuyersArm$Stand" "BuyersArm$Stand" "ells" "[I") ∈ gtb := gtb_of (tb1 _ (List.mem_of_getElem? (i := 148) rfl)) rfl
theorem w1_150 : (Jvm.Cond.laysFinal "BuyersArm$Stand" "BuyersArm$Stand" "parts" "[I") ∈ gtb := gtb_of (tb1 _ (List.mem_of_getElem? (i := 150) rfl)) rfl
theorem w1_152 : (Jvm.Cond.lays "BuyersArm$Stand" "BuyersArm$Stand" "sales" "I") ∈ gtb := gtb_of (tb1 _ (List.mem_of_getElem? (i := 152) rfl)) rfl
theorem w1_154 : (Jvm.Cond.lays "BuyersArm$Stand" "BuyersArm$Stand" "commonEll" "I") ∈ gtb := gtb_of (tb1 _ (List.mem_of_getElem? (i := 154) rfl)) rfl
theorem w1_156 : (Jvm.Cond.lays "BuyersArm$Stand" "BuyersArm$Stand" "isKept" "Z") ∈ gtb := gtb_of (tb1 _ (List.mem_of_getElem? (i := 156) rfl)) rfl
theorem w1_159 : (Jvm.Cond.arrayOver (Jvm.ClassFile.FieldType.object "BuyersArm$Stand")) ∈ lw_tbl := tb1 _ (List.mem_of_getElem? (i := 159) rfl)
theorem w1_160 : (Jvm.Cond.classLink "BuyersArm" (44 : Nat) "BuyersArm$Want") ∈ gtb := gtb_of (tb1 _ (List.mem_of_getElem? (i := 160) rfl)) rfl
theorem w1_161 : (Jvm.Cond.instantiable "BuyersArm$Want" (5 : Nat)) ∈ gtb := gtb_of (tb1 _ (List.mem_of_getElem? (i := 161) rfl)) rfl
theorem w1_162 : (Jvm.Cond.methodLinkNest "BuyersArm" (46 : Nat) ({ cls := "BuyersArm$Want", name := "<init>", desc := "()V" } : Jvm.MethodName) "BuyersArm") ∈ lw_tbl := tb1 _ (List.mem_of_getElem? (i := 162) rfl)
theorem w1_163 : (Jvm.Cond.instanceMethod ({ cls := "BuyersArm$Want", name := "<init>", desc := "()V" } : Jvm.MethodName)) ∈ gtb := gtb_of (tb1 _ (List.mem_of_getElem? (i := 163) rfl)) rfl
theorem w1_164 : (Jvm.Cond.code ({ cls := "BuyersArm$Want", name := "<init>", desc := "()V" } : Jvm.MethodName) prog_9_method_1_code (1 : Nat) (Option.none : Option Jvm.ClassFile.FieldType)) ∈ gtb := gtb_of (tb1 _ (List.mem_of_getElem? (i := 164) rfl)) rfl
theorem w1_165 : (Jvm.Cond.methodLink "BuyersArm$Want" (3 : Nat) ({ cls := "java/lang/Object", name := "<init>", desc := "()V" } : Jvm.MethodName)) ∈ gtb := gtb_of (tb1 _ (List.mem_of_getElem? (i := 165) rfl)) rfl
theorem w1_166 : (Jvm.Cond.classLink "BuyersArm$Want" (11 : Nat) "[[I") ∈ gtb := gtb_of (tb1 _ (List.mem_of_getElem? (i := 166) rfl)) rfl
theorem w1_167 : (Jvm.Cond.arrayOver (Jvm.ClassFile.FieldType.array Jvm.ClassFile.FieldType.int)) ∈ lw_tbl := tb1 _ (List.mem_of_getElem? (i := 167) rfl)
theorem w1_168 : (Jvm.Cond.fieldLink "BuyersArm$Want" (13 : Nat) "BuyersArm$Want" "lightest" "[[I") ∈ gtb := gtb_of (tb1 _ (List.mem_of_getElem? (i := 168) rfl)) rfl
theorem w1_169 : (Jvm.Cond.fieldLink "BuyersArm$Want" (16 : Nat) "BuyersArm$Want" "withOne" "[I") ∈ gtb := gtb_of (tb1 _ (List.mem_of_getElem? (i := 169) rfl)) rfl
theorem w1_170 : (Jvm.Cond.fieldLink "BuyersArm$Want" (20 : Nat) "BuyersArm$Want" "ells" "[I") ∈ gtb := gtb_of (tb1 _ (List.mem_of_getElem? (i := 170) rfl)) rfl
theorem w1_171 : (Jvm.Cond.fieldLink "BuyersArm" (184 : Nat) "BuyersArm$Want" "ells" "[I") ∈ gtb := gtb_of (tb1 _ (List.mem_of_getElem? (i := 171) rfl)) rfl
theorem w1_172 : (Jvm.Cond.fieldLink "BuyersArm$Want" (34 : Nat) "BuyersArm$Want" "highest" "I") ∈ gtb := gtb_of (tb1 _ (List.mem_of_getElem? (i := 172) rfl)) rfl
theorem w1_173 : (Jvm.Cond.fieldLink "BuyersArm$Want" (73 : Nat) "BuyersArm$Want" "weight" "I") ∈ gtb := gtb_of (tb1 _ (List.mem_of_getElem? (i := 173) rfl)) rfl
theorem w1_174 : (Jvm.Cond.laysFinal "BuyersArm$Want" "BuyersArm$Want" "lightest" "[[I") ∈ gtb := gtb_of (tb1 _ (List.mem_of_getElem? (i := 174) rfl)) rfl
theorem w1_176 : (Jvm.Cond.laysFinal "BuyersArm$Want" "BuyersArm$Want" "withOne" "[I") ∈ gtb := gtb_of (tb1 _ (List.mem_of_getElem? (i := 176) rfl)) rfl
theorem w1_178 : (Jvm.Cond.laysFinal "BuyersArm$Want" "BuyersArm$Want" "ells" "[I") ∈ gtb := gtb_of (tb1 _ (List.mem_of_getElem? (i := 178) rfl)) rfl
theorem w1_180 : (Jvm.Cond.lays "BuyersArm$Want" "BuyersArm$Want" "highest" "I") ∈ gtb := gtb_of (tb1 _ (List.mem_of_getElem? (i := 180) rfl)) rfl
theorem w1_182 : (Jvm.Cond.lays "BuyersArm$Want" "BuyersArm$Want" "weight" "I") ∈ gtb := gtb_of (tb1 _ (List.mem_of_getElem? (i := 182) rfl)) rfl
theorem w1_185 : (Jvm.Cond.classLink "BuyersArm" (51 : Nat) "BuyersArm$Exchanges") ∈ gtb := gtb_of (tb1 _ (List.mem_of_getElem? (i := 185) rfl)) rfl
theorem w1_186 : (Jvm.Cond.instantiable "BuyersArm$Exchanges" (10 : Nat)) ∈ gtb := gtb_of (tb1 _ (List.mem_of_getElem? (i := 186) rfl)) rfl
theorem w1_187 : (Jvm.Cond.methodLinkNest "BuyersArm" (53 : Nat) ({ cls := "BuyersArm$Exchanges", name := "<init>", desc := "()V" } : Jvm.MethodName) "BuyersArm") ∈ lw_tbl := tb1 _ (List.mem_of_getElem? (i := 187) rfl)
theorem w1_188 : (Jvm.Cond.instanceMethod ({ cls := "BuyersArm$Exchanges", name := "<init>", desc := "()V" } : Jvm.MethodName)) ∈ gtb := gtb_of (tb1 _ (List.mem_of_getElem? (i := 188) rfl)) rfl
theorem w1_189 : (Jvm.Cond.code ({ cls := "BuyersArm$Exchanges", name := "<init>", desc := "()V" } : Jvm.MethodName) prog_2_method_1_code (1 : Nat) (Option.none : Option Jvm.ClassFile.FieldType)) ∈ gtb := gtb_of (tb1 _ (List.mem_of_getElem? (i := 189) rfl)) rfl
theorem w1_190 : (Jvm.Cond.methodLink "BuyersArm$Exchanges" (3 : Nat) ({ cls := "java/lang/Object", name := "<init>", desc := "()V" } : Jvm.MethodName)) ∈ gtb := gtb_of (tb1 _ (List.mem_of_getElem? (i := 190) rfl)) rfl
theorem w1_191 : (Jvm.Cond.fieldLink "BuyersArm$Exchanges" (9 : Nat) "BuyersArm$Exchanges" "from" "[I") ∈ gtb := gtb_of (tb1 _ (List.mem_of_getElem? (i := 191) rfl)) rfl
theorem w1_192 : (Jvm.Cond.fieldLink "BuyersArm$Exchanges" (15 : Nat) "BuyersArm$Exchanges" "to" "[I") ∈ gtb := gtb_of (tb1 _ (List.mem_of_getElem? (i := 192) rfl)) rfl
theorem w1_193 : (Jvm.Cond.fieldLink "BuyersArm$Exchanges" (18 : Nat) "BuyersArm$Exchanges" "given" "[I") ∈ gtb := gtb_of (tb1 _ (List.mem_of_getElem? (i := 193) rfl)) rfl
theorem w1_194 : (Jvm.Cond.fieldLink "BuyersArm$Exchanges" (21 : Nat) "BuyersArm$Exchanges" "taken" "[I") ∈ gtb := gtb_of (tb1 _ (List.mem_of_getElem? (i := 194) rfl)) rfl
theorem w1_195 : (Jvm.Cond.fieldLink "BuyersArm$Exchanges" (24 : Nat) "BuyersArm$Exchanges" "armOfGiven" "[I") ∈ gtb := gtb_of (tb1 _ (List.mem_of_getElem? (i := 195) rfl)) rfl
theorem w1_196 : (Jvm.Cond.fieldLink "BuyersArm$Exchanges" (30 : Nat) "BuyersArm$Exchanges" "made" "I") ∈ gtb := gtb_of (tb1 _ (List.mem_of_getElem? (i := 196) rfl)) rfl
theorem w1_197 : (Jvm.Cond.fieldLink "BuyersArm" (185 : Nat) "BuyersArm$Exchanges" "made" "I") ∈ gtb := gtb_of (tb1 _ (List.mem_of_getElem? (i := 197) rfl)) rfl
theorem w1_198 : (Jvm.Cond.fieldLink "BuyersArm$Exchanges" (27 : Nat) "BuyersArm$Exchanges" "best" "[I") ∈ gtb := gtb_of (tb1 _ (List.mem_of_getElem? (i := 198) rfl)) rfl
theorem w1_199 : (Jvm.Cond.fieldLink "BuyersArm" (210 : Nat) "BuyersArm$Exchanges" "best" "[I") ∈ gtb := gtb_of (tb1 _ (List.mem_of_getElem? (i := 199) rfl)) rfl
theorem w1_200 : (Jvm.Cond.fieldLink "BuyersArm$Exchanges" (34 : Nat) "BuyersArm$Exchanges" "size" "I") ∈ gtb := gtb_of (tb1 _ (List.mem_of_getElem? (i := 200) rfl)) rfl
theorem w1_201 : (Jvm.Cond.fieldLink "BuyersArm" (198 : Nat) "BuyersArm$Exchanges" "size" "I") ∈ gtb := gtb_of (tb1 _ (List.mem_of_getElem? (i := 201) rfl)) rfl
theorem w1_202 : (Jvm.Cond.fieldLink "BuyersArm$Exchanges" (37 : Nat) "BuyersArm$Exchanges" "behind" "J") ∈ gtb := gtb_of (tb1 _ (List.mem_of_getElem? (i := 202) rfl)) rfl
theorem w1_203 : (Jvm.Cond.fieldLink "BuyersArm" (203 : Nat) "BuyersArm$Exchanges" "behind" "J") ∈ gtb := gtb_of (tb1 _ (List.mem_of_getElem? (i := 203) rfl)) rfl
theorem w1_204 : (Jvm.Cond.fieldLink "BuyersArm$Exchanges" (41 : Nat) "BuyersArm$Exchanges" "ahead" "J") ∈ gtb := gtb_of (tb1 _ (List.mem_of_getElem? (i := 204) rfl)) rfl
theorem w1_205 : (Jvm.Cond.fieldLink "BuyersArm" (207 : Nat) "BuyersArm$Exchanges" "ahead" "J") ∈ gtb := gtb_of (tb1 _ (List.mem_of_getElem? (i := 205) rfl)) rfl
theorem w1_206 : (Jvm.Cond.laysFinal "BuyersArm$Exchanges" "BuyersArm$Exchanges" "from" "[I") ∈ gtb := gtb_of (tb1 _ (List.mem_of_getElem? (i := 206) rfl)) rfl
theorem w1_208 : (Jvm.Cond.laysFinal "BuyersArm$Exchanges" "BuyersArm$Exchanges" "to" "[I") ∈ gtb := gtb_of (tb1 _ (List.mem_of_getElem? (i := 208) rfl)) rfl
theorem w1_210 : (Jvm.Cond.laysFinal "BuyersArm$Exchanges" "BuyersArm$Exchanges" "given" "[I") ∈ gtb := gtb_of (tb1 _ (List.mem_of_getElem? (i := 210) rfl)) rfl
theorem w1_212 : (Jvm.Cond.laysFinal "BuyersArm$Exchanges" "BuyersArm$Exchanges" "taken" "[I") ∈ gtb := gtb_of (tb1 _ (List.mem_of_getElem? (i := 212) rfl)) rfl
theorem w1_214 : (Jvm.Cond.laysFinal "BuyersArm$Exchanges" "BuyersArm$Exchanges" "armOfGiven" "[I") ∈ gtb := gtb_of (tb1 _ (List.mem_of_getElem? (i := 214) rfl)) rfl
theorem w1_216 : (Jvm.Cond.lays "BuyersArm$Exchanges" "BuyersArm$Exchanges" "made" "I") ∈ gtb := gtb_of (tb1 _ (List.mem_of_getElem? (i := 216) rfl)) rfl
theorem w1_218 : (Jvm.Cond.laysFinal "BuyersArm$Exchanges" "BuyersArm$Exchanges" "best" "[I") ∈ gtb := gtb_of (tb1 _ (List.mem_of_getElem? (i := 218) rfl)) rfl
theorem w1_220 : (Jvm.Cond.lays "BuyersArm$Exchanges" "BuyersArm$Exchanges" "size" "I") ∈ gtb := gtb_of (tb1 _ (List.mem_of_getElem? (i := 220) rfl)) rfl
theorem w1_222 : (Jvm.Cond.lays "BuyersArm$Exchanges" "BuyersArm$Exchanges" "behind" "J") ∈ gtb := gtb_of (tb1 _ (List.mem_of_getElem? (i := 222) rfl)) rfl
theorem w1_224 : (Jvm.Cond.lays "BuyersArm$Exchanges" "BuyersArm$Exchanges" "ahead" "J") ∈ gtb := gtb_of (tb1 _ (List.mem_of_getElem? (i := 224) rfl)) rfl
theorem w1_227 : (Jvm.Cond.classLink "BuyersArm" (58 : Nat) "BuyersArm$Piece") ∈ gtb := gtb_of (tb1 _ (List.mem_of_getElem? (i := 227) rfl)) rfl
theorem w1_228 : (Jvm.Cond.instantiable "BuyersArm$Piece" (3 : Nat)) ∈ gtb := gtb_of (tb1 _ (List.mem_of_getElem? (i := 228) rfl)) rfl
theorem w1_229 : (Jvm.Cond.methodLinkNest "BuyersArm" (60 : Nat) ({ cls := "BuyersArm$Piece", name := "<init>", desc := "()V" } : Jvm.MethodName) "BuyersArm") ∈ lw_tbl := tb1 _ (List.mem_of_getElem? (i := 229) rfl)
theorem w1_230 : (Jvm.Cond.instanceMethod ({ cls := "BuyersArm$Piece", name := "<init>", desc := "()V" } : Jvm.MethodName)) ∈ gtb := gtb_of (tb1 _ (List.mem_of_getElem? (i := 230) rfl)) rfl
theorem w1_231 : (Jvm.Cond.code ({ cls := "BuyersArm$Piece", name := "<init>", desc := "()V" } : Jvm.MethodName) prog_4_method_1_code (1 : Nat) (Option.none : Option Jvm.ClassFile.FieldType)) ∈ gtb := gtb_of (tb1 _ (List.mem_of_getElem? (i := 231) rfl)) rfl
theorem w1_232 : (Jvm.Cond.methodLink "BuyersArm$Piece" (3 : Nat) ({ cls := "java/lang/Object", name := "<init>", desc := "()V" } : Jvm.MethodName)) ∈ gtb := gtb_of (tb1 _ (List.mem_of_getElem? (i := 232) rfl)) rfl
theorem w1_233 : (Jvm.Cond.fieldLink "BuyersArm$Piece" (9 : Nat) "BuyersArm$Piece" "ellsTo" "[I") ∈ gtb := gtb_of (tb1 _ (List.mem_of_getElem? (i := 233) rfl)) rfl
theorem w1_234 : (Jvm.Cond.fieldLink "BuyersArm$Piece" (20 : Nat) "BuyersArm$Piece" "leftOver" "I") ∈ gtb := gtb_of (tb1 _ (List.mem_of_getElem? (i := 234) rfl)) rfl
theorem w1_235 : (Jvm.Cond.fieldLink "BuyersArm" (233 : Nat) "BuyersArm$Piece" "leftOver" "I") ∈ gtb := gtb_of (tb1 _ (List.mem_of_getElem? (i := 235) rfl)) rfl
theorem w1_236 : (Jvm.Cond.fieldLink "BuyersArm$Piece" (24 : Nat) "BuyersArm$Piece" "fewest" "I") ∈ gtb := gtb_of (tb1 _ (List.mem_of_getElem? (i := 236) rfl)) rfl
theorem w1_237 : (Jvm.Cond.fieldLink "BuyersArm" (230 : Nat) "BuyersArm$Piece" "fewest" "I") ∈ gtb := gtb_of (tb1 _ (List.mem_of_getElem? (i := 237) rfl)) rfl
theorem w1_238 : (Jvm.Cond.laysFinal "BuyersArm$Piece" "BuyersArm$Piece" "ellsTo" "[I") ∈ gtb := gtb_of (tb1 _ (List.mem_of_getElem? (i := 238) rfl)) rfl
theorem w2_0 : (Jvm.Cond.lays "BuyersArm$Piece" "BuyersArm$Piece" "leftOver" "I") ∈ gtb := gtb_of (tb2 _ (List.mem_of_getElem? (i := 0) rfl)) rfl
theorem w2_2 : (Jvm.Cond.lays "BuyersArm$Piece" "BuyersArm$Piece" "fewest" "I") ∈ gtb := gtb_of (tb2 _ (List.mem_of_getElem? (i := 2) rfl)) rfl
theorem w2_5 : (Jvm.Cond.classLink "BuyersArm" (65 : Nat) "BuyersArm$Hidden") ∈ gtb := gtb_of (tb2 _ (List.mem_of_getElem? (i := 5) rfl)) rfl
theorem w2_6 : (Jvm.Cond.instantiable "BuyersArm$Hidden" (4 : Nat)) ∈ gtb := gtb_of (tb2 _ (List.mem_of_getElem? (i := 6) rfl)) rfl
theorem w2_7 : (Jvm.Cond.methodLinkNest "BuyersArm" (67 : Nat) ({ cls := "BuyersArm$Hidden", name := "<init>", desc := "()V" } : Jvm.MethodName) "BuyersArm") ∈ lw_tbl := tb2 _ (List.mem_of_getElem? (i := 7) rfl)
theorem w2_8 : (Jvm.Cond.instanceMethod ({ cls := "BuyersArm$Hidden", name := "<init>", desc := "()V" } : Jvm.MethodName)) ∈ gtb := gtb_of (tb2 _ (List.mem_of_getElem? (i := 8) rfl)) rfl
theorem w2_9 : (Jvm.Cond.code ({ cls := "BuyersArm$Hidden", name := "<init>", desc := "()V" } : Jvm.MethodName) prog_3_method_1_code (1 : Nat) (Option.none : Option Jvm.ClassFile.FieldType)) ∈ gtb := gtb_of (tb2 _ (List.mem_of_getElem? (i := 9) rfl)) rfl
theorem w2_10 : (Jvm.Cond.methodLink "BuyersArm$Hidden" (3 : Nat) ({ cls := "java/lang/Object", name := "<init>", desc := "()V" } : Jvm.MethodName)) ∈ gtb := gtb_of (tb2 _ (List.mem_of_getElem? (i := 10) rfl)) rfl
theorem w2_11 : (Jvm.Cond.fieldLink "BuyersArm$Hidden" (9 : Nat) "BuyersArm$Hidden" "misfits" "[I") ∈ gtb := gtb_of (tb2 _ (List.mem_of_getElem? (i := 11) rfl)) rfl
theorem w2_12 : (Jvm.Cond.fieldLink "BuyersArm$Hidden" (15 : Nat) "BuyersArm$Hidden" "lengths" "[I") ∈ gtb := gtb_of (tb2 _ (List.mem_of_getElem? (i := 12) rfl)) rfl
theorem w2_13 : (Jvm.Cond.fieldLink "BuyersArm$Hidden" (18 : Nat) "BuyersArm$Hidden" "times" "I") ∈ gtb := gtb_of (tb2 _ (List.mem_of_getElem? (i := 13) rfl)) rfl
theorem w2_14 : (Jvm.Cond.fieldLink "BuyersArm" (242 : Nat) "BuyersArm$Hidden" "times" "I") ∈ gtb := gtb_of (tb2 _ (List.mem_of_getElem? (i := 14) rfl)) rfl
theorem w2_15 : (Jvm.Cond.fieldLink "BuyersArm$Hidden" (34 : Nat) "BuyersArm$Hidden" "rows" "I") ∈ gtb := gtb_of (tb2 _ (List.mem_of_getElem? (i := 15) rfl)) rfl
theorem w2_16 : (Jvm.Cond.fieldLink "BuyersArm" (253 : Nat) "BuyersArm$Hidden" "rows" "I") ∈ gtb := gtb_of (tb2 _ (List.mem_of_getElem? (i := 16) rfl)) rfl
theorem w2_17 : (Jvm.Cond.laysFinal "BuyersArm$Hidden" "BuyersArm$Hidden" "misfits" "[I") ∈ gtb := gtb_of (tb2 _ (List.mem_of_getElem? (i := 17) rfl)) rfl
theorem w2_19 : (Jvm.Cond.laysFinal "BuyersArm$Hidden" "BuyersArm$Hidden" "lengths" "[I") ∈ gtb := gtb_of (tb2 _ (List.mem_of_getElem? (i := 19) rfl)) rfl
theorem w2_21 : (Jvm.Cond.lays "BuyersArm$Hidden" "BuyersArm$Hidden" "times" "I") ∈ gtb := gtb_of (tb2 _ (List.mem_of_getElem? (i := 21) rfl)) rfl
theorem w2_23 : (Jvm.Cond.lays "BuyersArm$Hidden" "BuyersArm$Hidden" "rows" "I") ∈ gtb := gtb_of (tb2 _ (List.mem_of_getElem? (i := 23) rfl)) rfl
theorem w2_26 : (Jvm.Cond.fieldLink "BuyersArm" (12 : Nat) "BuyersArm" "signs" "LBuyersArm$Signs;") ∈ gtb := gtb_of (tb2 _ (List.mem_of_getElem? (i := 26) rfl)) rfl
theorem w2_27 : (Jvm.Cond.fieldLink "BuyersArm" (19 : Nat) "BuyersArm" "reader" "LBuyersArm$Reader;") ∈ gtb := gtb_of (tb2 _ (List.mem_of_getElem? (i := 27) rfl)) rfl
theorem w2_28 : (Jvm.Cond.fieldLink "BuyersArm" (26 : Nat) "BuyersArm" "told" "LBuyersArm$Told;") ∈ gtb := gtb_of (tb2 _ (List.mem_of_getElem? (i := 28) rfl)) rfl
theorem w2_29 : (Jvm.Cond.fieldLink "BuyersArm" (30 : Nat) "BuyersArm" "draft" "LBuyersArm$Told;") ∈ gtb := gtb_of (tb2 _ (List.mem_of_getElem? (i := 29) rfl)) rfl
theorem w2_30 : (Jvm.Cond.fieldLink "BuyersArm" (36 : Nat) "BuyersArm" "stand" "LBuyersArm$Stand;") ∈ gtb := gtb_of (tb2 _ (List.mem_of_getElem? (i := 30) rfl)) rfl
theorem w2_31 : (Jvm.Cond.fieldLink "BuyersArm" (40 : Nat) "BuyersArm" "slots" "[LBuyersArm$Stand;") ∈ gtb := gtb_of (tb2 _ (List.mem_of_getElem? (i := 31) rfl)) rfl
theorem w2_32 : (Jvm.Cond.fieldLink "BuyersArm" (47 : Nat) "BuyersArm" "want" "LBuyersArm$Want;") ∈ gtb := gtb_of (tb2 _ (List.mem_of_getElem? (i := 32) rfl)) rfl
theorem w2_33 : (Jvm.Cond.fieldLink "BuyersArm" (54 : Nat) "BuyersArm" "exchanges" "LBuyersArm$Exchanges;") ∈ gtb := gtb_of (tb2 _ (List.mem_of_getElem? (i := 33) rfl)) rfl
theorem w2_34 : (Jvm.Cond.fieldLink "BuyersArm" (61 : Nat) "BuyersArm" "piece" "LBuyersArm$Piece;") ∈ gtb := gtb_of (tb2 _ (List.mem_of_getElem? (i := 34) rfl)) rfl
theorem w2_35 : (Jvm.Cond.fieldLink "BuyersArm" (68 : Nat) "BuyersArm" "hidden" "LBuyersArm$Hidden;") ∈ gtb := gtb_of (tb2 _ (List.mem_of_getElem? (i := 35) rfl)) rfl
theorem w2_36 : (Jvm.Cond.laysFinal "BuyersArm" "BuyersArm" "signs" "LBuyersArm$Signs;") ∈ gtb := gtb_of (tb2 _ (List.mem_of_getElem? (i := 36) rfl)) rfl
theorem w2_38 : (Jvm.Cond.laysFinal "BuyersArm" "BuyersArm" "reader" "LBuyersArm$Reader;") ∈ gtb := gtb_of (tb2 _ (List.mem_of_getElem? (i := 38) rfl)) rfl
theorem w2_40 : (Jvm.Cond.lays "BuyersArm" "BuyersArm" "told" "LBuyersArm$Told;") ∈ gtb := gtb_of (tb2 _ (List.mem_of_getElem? (i := 40) rfl)) rfl
theorem w2_42 : (Jvm.Cond.lays "BuyersArm" "BuyersArm" "draft" "LBuyersArm$Told;") ∈ gtb := gtb_of (tb2 _ (List.mem_of_getElem? (i := 42) rfl)) rfl
theorem w2_44 : (Jvm.Cond.laysFinal "BuyersArm" "BuyersArm" "stand" "LBuyersArm$Stand;") ∈ gtb := gtb_of (tb2 _ (List.mem_of_getElem? (i := 44) rfl)) rfl
theorem w2_46 : (Jvm.Cond.laysFinal "BuyersArm" "BuyersArm" "slots" "[LBuyersArm$Stand;") ∈ gtb := gtb_of (tb2 _ (List.mem_of_getElem? (i := 46) rfl)) rfl
theorem w2_48 : (Jvm.Cond.laysFinal "BuyersArm" "BuyersArm" "want" "LBuyersArm$Want;") ∈ gtb := gtb_of (tb2 _ (List.mem_of_getElem? (i := 48) rfl)) rfl
theorem w2_50 : (Jvm.Cond.laysFinal "BuyersArm" "BuyersArm" "exchanges" "LBuyersArm$Exchanges;") ∈ gtb := gtb_of (tb2 _ (List.mem_of_getElem? (i := 50) rfl)) rfl
theorem w2_52 : (Jvm.Cond.laysFinal "BuyersArm" "BuyersArm" "piece" "LBuyersArm$Piece;") ∈ gtb := gtb_of (tb2 _ (List.mem_of_getElem? (i := 52) rfl)) rfl
theorem w2_54 : (Jvm.Cond.laysFinal "BuyersArm" "BuyersArm" "hidden" "LBuyersArm$Hidden;") ∈ gtb := gtb_of (tb2 _ (List.mem_of_getElem? (i := 54) rfl)) rfl
theorem w2_57 : (Jvm.Cond.methodLink "BuyersArmLaw" (15 : Nat) ({ cls := "BuyersArm", name := "write", desc := "(IJ)I" } : Jvm.MethodName)) ∈ gtb := gtb_of (tb2 _ (List.mem_of_getElem? (i := 57) rfl)) rfl
theorem w2_58 : (Jvm.Cond.instanceMethod ({ cls := "BuyersArm", name := "write", desc := "(IJ)I" } : Jvm.MethodName)) ∈ gtb := gtb_of (tb2 _ (List.mem_of_getElem? (i := 58) rfl)) rfl
theorem w2_59 : (Jvm.Cond.selects "BuyersArm" ({ cls := "BuyersArm", name := "write", desc := "(IJ)I" } : Jvm.MethodName) ({ cls := "BuyersArm", name := "write", desc := "(IJ)I" } : Jvm.MethodName)) ∈ gtb := gtb_of (tb2 _ (List.mem_of_getElem? (i := 59) rfl)) rfl
theorem w2_60 : (Jvm.Cond.code ({ cls := "BuyersArm", name := "write", desc := "(IJ)I" } : Jvm.MethodName) prog_1_method_2_code (4 : Nat) (Option.some Jvm.ClassFile.FieldType.int)) ∈ gtb := gtb_of (tb2 _ (List.mem_of_getElem? (i := 60) rfl)) rfl
theorem w2_61 : (Jvm.Cond.methodLink "BuyersArm" (72 : Nat) ({ cls := "BuyersArm", name := "within", desc := "(III)Z" } : Jvm.MethodName)) ∈ gtb := gtb_of (tb2 _ (List.mem_of_getElem? (i := 61) rfl)) rfl
theorem w2_62 : (Jvm.Cond.static ({ cls := "BuyersArm", name := "within", desc := "(III)Z" } : Jvm.MethodName)) ∈ gtb := gtb_of (tb2 _ (List.mem_of_getElem? (i := 62) rfl)) rfl
theorem w2_63 : (Jvm.Cond.code ({ cls := "BuyersArm", name := "within", desc := "(III)Z" } : Jvm.MethodName) prog_1_method_36_code (3 : Nat) (Option.some Jvm.ClassFile.FieldType.boolean)) ∈ gtb := gtb_of (tb2 _ (List.mem_of_getElem? (i := 63) rfl)) rfl
theorem w2_64 : (Jvm.Cond.methodLink "BuyersArm" (80 : Nat) ({ cls := "BuyersArm$Signs", name := "append", desc := "(IJ)V" } : Jvm.MethodName)) ∈ gtb := gtb_of (tb2 _ (List.mem_of_getElem? (i := 64) rfl)) rfl
theorem w2_65 : (Jvm.Cond.instanceMethod ({ cls := "BuyersArm$Signs", name := "append", desc := "(IJ)V" } : Jvm.MethodName)) ∈ gtb := gtb_of (tb2 _ (List.mem_of_getElem? (i := 65) rfl)) rfl
theorem w2_66 : (Jvm.Cond.selects "BuyersArm$Signs" ({ cls := "BuyersArm$Signs", name := "append", desc := "(IJ)V" } : Jvm.MethodName) ({ cls := "BuyersArm$Signs", name := "append", desc := "(IJ)V" } : Jvm.MethodName)) ∈ gtb := gtb_of (tb2 _ (List.mem_of_getElem? (i := 66) rfl)) rfl
theorem w2_67 : (Jvm.Cond.code ({ cls := "BuyersArm$Signs", name := "append", desc := "(IJ)V" } : Jvm.MethodName) prog_6_method_2_code (5 : Nat) (Option.none : Option Jvm.ClassFile.FieldType)) ∈ gtb := gtb_of (tb2 _ (List.mem_of_getElem? (i := 67) rfl)) rfl
theorem w2_68 : (Jvm.Cond.methodLink "BuyersArmLaw" (20 : Nat) ({ cls := "BuyersArm", name := "wipe", desc := "()I" } : Jvm.MethodName)) ∈ gtb := gtb_of (tb2 _ (List.mem_of_getElem? (i := 68) rfl)) rfl
theorem w2_69 : (Jvm.Cond.instanceMethod ({ cls := "BuyersArm", name := "wipe", desc := "()I" } : Jvm.MethodName)) ∈ gtb := gtb_of (tb2 _ (List.mem_of_getElem? (i := 69) rfl)) rfl
theorem w2_70 : (Jvm.Cond.selects "BuyersArm" ({ cls := "BuyersArm", name := "wipe", desc := "()I" } : Jvm.MethodName) ({ cls := "BuyersArm", name := "wipe", desc := "()I" } : Jvm.MethodName)) ∈ gtb := gtb_of (tb2 _ (List.mem_of_getElem? (i := 70) rfl)) rfl
theorem w2_71 : (Jvm.Cond.code ({ cls := "BuyersArm", name := "wipe", desc := "()I" } : Jvm.MethodName) prog_1_method_3_code (2 : Nat) (Option.some Jvm.ClassFile.FieldType.int)) ∈ gtb := gtb_of (tb2 _ (List.mem_of_getElem? (i := 71) rfl)) rfl
theorem w2_72 : (Jvm.Cond.methodLink "BuyersArmLaw" (25 : Nat) ({ cls := "BuyersArm", name := "fault", desc := "()I" } : Jvm.MethodName)) ∈ gtb := gtb_of (tb2 _ (List.mem_of_getElem? (i := 72) rfl)) rfl
theorem w2_73 : (Jvm.Cond.instanceMethod ({ cls := "BuyersArm", name := "fault", desc := "()I" } : Jvm.MethodName)) ∈ gtb := gtb_of (tb2 _ (List.mem_of_getElem? (i := 73) rfl)) rfl
theorem w2_74 : (Jvm.Cond.selects "BuyersArm" ({ cls := "BuyersArm", name := "fault", desc := "()I" } : Jvm.MethodName) ({ cls := "BuyersArm", name := "fault", desc := "()I" } : Jvm.MethodName)) ∈ gtb := gtb_of (tb2 _ (List.mem_of_getElem? (i := 74) rfl)) rfl
theorem w2_75 : (Jvm.Cond.code ({ cls := "BuyersArm", name := "fault", desc := "()I" } : Jvm.MethodName) prog_1_method_4_code (1 : Nat) (Option.some Jvm.ClassFile.FieldType.int)) ∈ gtb := gtb_of (tb2 _ (List.mem_of_getElem? (i := 75) rfl)) rfl
theorem w2_76 : (Jvm.Cond.methodLink "BuyersArm" (84 : Nat) ({ cls := "BuyersArm$Reader", name := "read", desc := "(LBuyersArm$Signs;LBuyersArm$Told;)I" } : Jvm.MethodName)) ∈ gtb := gtb_of (tb2 _ (List.mem_of_getElem? (i := 76) rfl)) rfl
theorem w2_77 : (Jvm.Cond.instanceMethod ({ cls := "BuyersArm$Reader", name := "read", desc := "(LBuyersArm$Signs;LBuyersArm$Told;)I" } : Jvm.MethodName)) ∈ gtb := gtb_of (tb2 _ (List.mem_of_getElem? (i := 77) rfl)) rfl
theorem w2_78 : (Jvm.Cond.selects "BuyersArm$Reader" ({ cls := "BuyersArm$Reader", name := "read", desc := "(LBuyersArm$Signs;LBuyersArm$Told;)I" } : Jvm.MethodName) ({ cls := "BuyersArm$Reader", name := "read", desc := "(LBuyersArm$Signs;LBuyersArm$Told;)I" } : Jvm.MethodName)) ∈ gtb := gtb_of (tb2 _ (List.mem_of_getElem? (i := 78) rfl)) rfl
theorem w2_79 : (Jvm.Cond.code ({ cls := "BuyersArm$Reader", name := "read", desc := "(LBuyersArm$Signs;LBuyersArm$Told;)I" } : Jvm.MethodName) prog_5_method_2_code (4 : Nat) (Option.some Jvm.ClassFile.FieldType.int)) ∈ gtb := gtb_of (tb2 _ (List.mem_of_getElem? (i := 79) rfl)) rfl
theorem w2_80 : (Jvm.Cond.methodLink "BuyersArm$Reader" (9 : Nat) ({ cls := "BuyersArm$Told", name := "clear", desc := "()V" } : Jvm.MethodName)) ∈ gtb := gtb_of (tb2 _ (List.mem_of_getElem? (i := 80) rfl)) rfl
theorem w2_81 : (Jvm.Cond.instanceMethod ({ cls := "BuyersArm$Told", name := "clear", desc := "()V" } : Jvm.MethodName)) ∈ gtb := gtb_of (tb2 _ (List.mem_of_getElem? (i := 81) rfl)) rfl
theorem w2_82 : (Jvm.Cond.selects "BuyersArm$Told" ({ cls := "BuyersArm$Told", name := "clear", desc := "()V" } : Jvm.MethodName) ({ cls := "BuyersArm$Told", name := "clear", desc := "()V" } : Jvm.MethodName)) ∈ gtb := gtb_of (tb2 _ (List.mem_of_getElem? (i := 82) rfl)) rfl
theorem w2_83 : (Jvm.Cond.code ({ cls := "BuyersArm$Told", name := "clear", desc := "()V" } : Jvm.MethodName) prog_8_method_2_code (1 : Nat) (Option.none : Option Jvm.ClassFile.FieldType)) ∈ gtb := gtb_of (tb2 _ (List.mem_of_getElem? (i := 83) rfl)) rfl
theorem w2_84 : (Jvm.Cond.methodLink "BuyersArm$Told" (43 : Nat) ({ cls := "java/util/Arrays", name := "fill", desc := "([II)V" } : Jvm.MethodName)) ∈ gtb := gtb_of (tb2 _ (List.mem_of_getElem? (i := 84) rfl)) rfl
theorem w2_85 : (Jvm.Cond.static ({ cls := "java/util/Arrays", name := "fill", desc := "([II)V" } : Jvm.MethodName)) ∈ gtb := gtb_of (tb2 _ (List.mem_of_getElem? (i := 85) rfl)) rfl
theorem w2_86 : (Jvm.Cond.code ({ cls := "java/util/Arrays", name := "fill", desc := "([II)V" } : Jvm.MethodName) prog_15_method_103_code (4 : Nat) (Option.none : Option Jvm.ClassFile.FieldType)) ∈ gtb := gtb_of (tb2 _ (List.mem_of_getElem? (i := 86) rfl)) rfl
theorem w2_87 : (Jvm.Cond.methodLink "BuyersArm$Reader" (29 : Nat) ({ cls := "BuyersArm$Reader", name := "takes", desc := "(ILBuyersArm$Told;)Z" } : Jvm.MethodName)) ∈ gtb := gtb_of (tb2 _ (List.mem_of_getElem? (i := 87) rfl)) rfl
theorem w2_89 : (Jvm.Cond.instanceMethod ({ cls := "BuyersArm$Reader", name := "takes", desc := "(ILBuyersArm$Told;)Z" } : Jvm.MethodName)) ∈ gtb := gtb_of (tb2 _ (List.mem_of_getElem? (i := 89) rfl)) rfl
theorem w2_90 : (Jvm.Cond.code ({ cls := "BuyersArm$Reader", name := "takes", desc := "(ILBuyersArm$Told;)Z" } : Jvm.MethodName) prog_5_method_3_code (4 : Nat) (Option.some Jvm.ClassFile.FieldType.boolean)) ∈ gtb := gtb_of (tb2 _ (List.mem_of_getElem? (i := 90) rfl)) rfl
theorem w2_91 : (Jvm.Cond.methodLink "BuyersArm$Reader" (33 : Nat) ({ cls := "BuyersArm$Reader", name := "opens", desc := "(ILBuyersArm$Told;)Z" } : Jvm.MethodName)) ∈ gtb := gtb_of (tb2 _ (List.mem_of_getElem? (i := 91) rfl)) rfl
theorem w2_93 : (Jvm.Cond.instanceMethod ({ cls := "BuyersArm$Reader", name := "opens", desc := "(ILBuyersArm$Told;)Z" } : Jvm.MethodName)) ∈ gtb := gtb_of (tb2 _ (List.mem_of_getElem? (i := 93) rfl)) rfl
theorem w2_94 : (Jvm.Cond.code ({ cls := "BuyersArm$Reader", name := "opens", desc := "(ILBuyersArm$Told;)Z" } : Jvm.MethodName) prog_5_method_4_code (3 : Nat) (Option.some Jvm.ClassFile.FieldType.boolean)) ∈ gtb := gtb_of (tb2 _ (List.mem_of_getElem? (i := 94) rfl)) rfl
theorem w2_95 : (Jvm.Cond.methodLink "BuyersArm$Reader" (39 : Nat) ({ cls := "BuyersArm$Reader", name := "takesOfPerson", desc := "(ILBuyersArm$Told;)Z" } : Jvm.MethodName)) ∈ gtb := gtb_of (tb2 _ (List.mem_of_getElem? (i := 95) rfl)) rfl
theorem w2_97 : (Jvm.Cond.instanceMethod ({ cls := "BuyersArm$Reader", name := "takesOfPerson", desc := "(ILBuyersArm$Told;)Z" } : Jvm.MethodName)) ∈ gtb := gtb_of (tb2 _ (List.mem_of_getElem? (i := 97) rfl)) rfl
theorem w2_98 : (Jvm.Cond.code ({ cls := "BuyersArm$Reader", name := "takesOfPerson", desc := "(ILBuyersArm$Told;)Z" } : Jvm.MethodName) prog_5_method_5_code (4 : Nat) (Option.some Jvm.ClassFile.FieldType.boolean)) ∈ gtb := gtb_of (tb2 _ (List.mem_of_getElem? (i := 98) rfl)) rfl
theorem w2_99 : (Jvm.Cond.methodLink "BuyersArm$Reader" (42 : Nat) ({ cls := "BuyersArm$Reader", name := "takesOfCounter", desc := "(ILBuyersArm$Told;)Z" } : Jvm.MethodName)) ∈ gtb := gtb_of (tb2 _ (List.mem_of_getElem? (i := 99) rfl)) rfl
theorem w2_101 : (Jvm.Cond.instanceMethod ({ cls := "BuyersArm$Reader", name := "takesOfCounter", desc := "(ILBuyersArm$Told;)Z" } : Jvm.MethodName)) ∈ gtb := gtb_of (tb2 _ (List.mem_of_getElem? (i := 101) rfl)) rfl
theorem w2_102 : (Jvm.Cond.code ({ cls := "BuyersArm$Reader", name := "takesOfCounter", desc := "(ILBuyersArm$Told;)Z" } : Jvm.MethodName) prog_5_method_6_code (4 : Nat) (Option.some Jvm.ClassFile.FieldType.boolean)) ∈ gtb := gtb_of (tb2 _ (List.mem_of_getElem? (i := 102) rfl)) rfl
theorem w2_103 : (Jvm.Cond.methodLink "BuyersArm$Reader" (45 : Nat) ({ cls := "BuyersArm$Reader", name := "takesOfBar", desc := "(ILBuyersArm$Told;)Z" } : Jvm.MethodName)) ∈ gtb := gtb_of (tb2 _ (List.mem_of_getElem? (i := 103) rfl)) rfl
theorem w2_105 : (Jvm.Cond.instanceMethod ({ cls := "BuyersArm$Reader", name := "takesOfBar", desc := "(ILBuyersArm$Told;)Z" } : Jvm.MethodName)) ∈ gtb := gtb_of (tb2 _ (List.mem_of_getElem? (i := 105) rfl)) rfl
theorem w2_106 : (Jvm.Cond.code ({ cls := "BuyersArm$Reader", name := "takesOfBar", desc := "(ILBuyersArm$Told;)Z" } : Jvm.MethodName) prog_5_method_7_code (3 : Nat) (Option.some Jvm.ClassFile.FieldType.boolean)) ∈ gtb := gtb_of (tb2 _ (List.mem_of_getElem? (i := 106) rfl)) rfl
theorem w2_107 : (Jvm.Cond.methodLink "BuyersArm$Reader" (75 : Nat) ({ cls := "BuyersArm$Told", name := "hasPerson", desc := "(I)Z" } : Jvm.MethodName)) ∈ gtb := gtb_of (tb2 _ (List.mem_of_getElem? (i := 107) rfl)) rfl
theorem w2_108 : (Jvm.Cond.instanceMethod ({ cls := "BuyersArm$Told", name := "hasPerson", desc := "(I)Z" } : Jvm.MethodName)) ∈ gtb := gtb_of (tb2 _ (List.mem_of_getElem? (i := 108) rfl)) rfl
theorem w2_109 : (Jvm.Cond.selects "BuyersArm$Told" ({ cls := "BuyersArm$Told", name := "hasPerson", desc := "(I)Z" } : Jvm.MethodName) ({ cls := "BuyersArm$Told", name := "hasPerson", desc := "(I)Z" } : Jvm.MethodName)) ∈ gtb := gtb_of (tb2 _ (List.mem_of_getElem? (i := 109) rfl)) rfl
theorem w2_110 : (Jvm.Cond.code ({ cls := "BuyersArm$Told", name := "hasPerson", desc := "(I)Z" } : Jvm.MethodName) prog_8_method_3_code (2 : Nat) (Option.some Jvm.ClassFile.FieldType.boolean)) ∈ gtb := gtb_of (tb2 _ (List.mem_of_getElem? (i := 110) rfl)) rfl
theorem w2_111 : (Jvm.Cond.methodLink "BuyersArm$Reader" (82 : Nat) ({ cls := "java/lang/Integer", name := "bitCount", desc := "(I)I" } : Jvm.MethodName)) ∈ gtb := gtb_of (tb2 _ (List.mem_of_getElem? (i := 111) rfl)) rfl
theorem w2_112 : (Jvm.Cond.static ({ cls := "java/lang/Integer", name := "bitCount", desc := "(I)I" } : Jvm.MethodName)) ∈ gtb := gtb_of (tb2 _ (List.mem_of_getElem? (i := 112) rfl)) rfl
theorem w2_113 : (Jvm.Cond.code ({ cls := "java/lang/Integer", name := "bitCount", desc := "(I)I" } : Jvm.MethodName) prog_12_method_49_code (1 : Nat) (Option.some Jvm.ClassFile.FieldType.int)) ∈ gtb := gtb_of (tb2 _ (List.mem_of_getElem? (i := 113) rfl)) rfl
theorem w2_114 : (Jvm.Cond.constant "java/lang/Integer" (265 : Nat) (1431655765 : Int32)) ∈ gtb := gtb_of (tb2 _ (List.mem_of_getElem? (i := 114) rfl)) rfl
theorem w2_115 : (Jvm.Cond.constant "java/lang/Integer" (266 : Nat) (858993459 : Int32)) ∈ gtb := gtb_of (tb2 _ (List.mem_of_getElem? (i := 115) rfl)) rfl
theorem w2_116 : (Jvm.Cond.constant "java/lang/Integer" (267 : Nat) (252645135 : Int32)) ∈ gtb := gtb_of (tb2 _ (List.mem_of_getElem? (i := 116) rfl)) rfl
theorem w2_117 : (Jvm.Cond.methodLink "BuyersArm$Reader" (88 : Nat) ({ cls := "BuyersArm$Told", name := "hasCounter", desc := "(I)Z" } : Jvm.MethodName)) ∈ gtb := gtb_of (tb2 _ (List.mem_of_getElem? (i := 117) rfl)) rfl
theorem w2_118 : (Jvm.Cond.instanceMethod ({ cls := "BuyersArm$Told", name := "hasCounter", desc := "(I)Z" } : Jvm.MethodName)) ∈ gtb := gtb_of (tb2 _ (List.mem_of_getElem? (i := 118) rfl)) rfl
theorem w2_119 : (Jvm.Cond.selects "BuyersArm$Told" ({ cls := "BuyersArm$Told", name := "hasCounter", desc := "(I)Z" } : Jvm.MethodName) ({ cls := "BuyersArm$Told", name := "hasCounter", desc := "(I)Z" } : Jvm.MethodName)) ∈ gtb := gtb_of (tb2 _ (List.mem_of_getElem? (i := 119) rfl)) rfl
theorem w2_120 : (Jvm.Cond.code ({ cls := "BuyersArm$Told", name := "hasCounter", desc := "(I)Z" } : Jvm.MethodName) prog_8_method_4_code (2 : Nat) (Option.some Jvm.ClassFile.FieldType.boolean)) ∈ gtb := gtb_of (tb2 _ (List.mem_of_getElem? (i := 120) rfl)) rfl
theorem w2_121 : (Jvm.Cond.methodLink "BuyersArm$Reader" (91 : Nat) ({ cls := "BuyersArm$Told", name := "bars", desc := "(II)Z" } : Jvm.MethodName)) ∈ gtb := gtb_of (tb2 _ (List.mem_of_getElem? (i := 121) rfl)) rfl
theorem w2_122 : (Jvm.Cond.instanceMethod ({ cls := "BuyersArm$Told", name := "bars", desc := "(II)Z" } : Jvm.MethodName)) ∈ gtb := gtb_of (tb2 _ (List.mem_of_getElem? (i := 122) rfl)) rfl
theorem w2_123 : (Jvm.Cond.selects "BuyersArm$Told" ({ cls := "BuyersArm$Told", name := "bars", desc := "(II)Z" } : Jvm.MethodName) ({ cls := "BuyersArm$Told", name := "bars", desc := "(II)Z" } : Jvm.MethodName)) ∈ gtb := gtb_of (tb2 _ (List.mem_of_getElem? (i := 123) rfl)) rfl
theorem w2_124 : (Jvm.Cond.code ({ cls := "BuyersArm$Told", name := "bars", desc := "(II)Z" } : Jvm.MethodName) prog_8_method_5_code (3 : Nat) (Option.some Jvm.ClassFile.FieldType.boolean)) ∈ gtb := gtb_of (tb2 _ (List.mem_of_getElem? (i := 124) rfl)) rfl
theorem w2_125 : (Jvm.Cond.methodLink "BuyersArmLaw" (29 : Nat) ({ cls := "BuyersArm", name := "market", desc := "()I" } : Jvm.MethodName)) ∈ gtb := gtb_of (tb2 _ (List.mem_of_getElem? (i := 125) rfl)) rfl
theorem w2_126 : (Jvm.Cond.instanceMethod ({ cls := "BuyersArm", name := "market", desc := "()I" } : Jvm.MethodName)) ∈ gtb := gtb_of (tb2 _ (List.mem_of_getElem? (i := 126) rfl)) rfl
theorem w2_127 : (Jvm.Cond.selects "BuyersArm" ({ cls := "BuyersArm", name := "market", desc := "()I" } : Jvm.MethodName) ({ cls := "BuyersArm", name := "market", desc := "()I" } : Jvm.MethodName)) ∈ gtb := gtb_of (tb2 _ (List.mem_of_getElem? (i := 127) rfl)) rfl
theorem w2_128 : (Jvm.Cond.code ({ cls := "BuyersArm", name := "market", desc := "()I" } : Jvm.MethodName) prog_1_method_5_code (3 : Nat) (Option.some Jvm.ClassFile.FieldType.int)) ∈ gtb := gtb_of (tb2 _ (List.mem_of_getElem? (i := 128) rfl)) rfl
theorem w2_129 : (Jvm.Cond.methodLink "BuyersArm" (88 : Nat) ({ cls := "BuyersArm$Stand", name := "begin", desc := "(LBuyersArm$Told;)V" } : Jvm.MethodName)) ∈ gtb := gtb_of (tb2 _ (List.mem_of_getElem? (i := 129) rfl)) rfl
theorem w2_130 : (Jvm.Cond.instanceMethod ({ cls := "BuyersArm$Stand", name := "begin", desc := "(LBuyersArm$Told;)V" } : Jvm.MethodName)) ∈ gtb := gtb_of (tb2 _ (List.mem_of_getElem? (i := 130) rfl)) rfl
theorem w2_131 : (Jvm.Cond.selects "BuyersArm$Stand" ({ cls := "BuyersArm$Stand", name := "begin", desc := "(LBuyersArm$Told;)V" } : Jvm.MethodName) ({ cls := "BuyersArm$Stand", name := "begin", desc := "(LBuyersArm$Told;)V" } : Jvm.MethodName)) ∈ gtb := gtb_of (tb2 _ (List.mem_of_getElem? (i := 131) rfl)) rfl
theorem w2_132 : (Jvm.Cond.code ({ cls := "BuyersArm$Stand", name := "begin", desc := "(LBuyersArm$Told;)V" } : Jvm.MethodName) prog_7_method_2_code (2 : Nat) (Option.none : Option Jvm.ClassFile.FieldType)) ∈ gtb := gtb_of (tb2 _ (List.mem_of_getElem? (i := 132) rfl)) rfl
theorem w2_133 : (Jvm.Cond.methodLink "BuyersArm$Stand" (37 : Nat) ({ cls := "java/lang/System", name := "arraycopy", desc := "(Ljava/lang/Object;ILjava/lang/Object;II)V" } : Jvm.MethodName)) ∈ gtb := gtb_of (tb2 _ (List.mem_of_getElem? (i := 133) rfl)) rfl
theorem w2_134 : (Jvm.Cond.static ({ cls := "java/lang/System", name := "arraycopy", desc := "(Ljava/lang/Object;ILjava/lang/Object;II)V" } : Jvm.MethodName)) ∈ gtb := gtb_of (tb2 _ (List.mem_of_getElem? (i := 134) rfl)) rfl
theorem w2_135 : (Jvm.Cond.native ({ cls := "java/lang/System", name := "arraycopy", desc := "(Ljava/lang/Object;ILjava/lang/Object;II)V" } : Jvm.MethodName)) ∈ gtb := gtb_of (tb2 _ (List.mem_of_getElem? (i := 135) rfl)) rfl
theorem w2_136 : (Jvm.Cond.methodLink "BuyersArmLaw" (33 : Nat) ({ cls := "BuyersArm", name := "person", desc := "(II)I" } : Jvm.MethodName)) ∈ gtb := gtb_of (tb2 _ (List.mem_of_getElem? (i := 136) rfl)) rfl
theorem w2_137 : (Jvm.Cond.instanceMethod ({ cls := "BuyersArm", name := "person", desc := "(II)I" } : Jvm.MethodName)) ∈ gtb := gtb_of (tb2 _ (List.mem_of_getElem? (i := 137) rfl)) rfl
theorem w2_138 : (Jvm.Cond.selects "BuyersArm" ({ cls := "BuyersArm", name := "person", desc := "(II)I" } : Jvm.MethodName) ({ cls := "BuyersArm", name := "person", desc := "(II)I" } : Jvm.MethodName)) ∈ gtb := gtb_of (tb2 _ (List.mem_of_getElem? (i := 138) rfl)) rfl
theorem w2_139 : (Jvm.Cond.code ({ cls := "BuyersArm", name := "person", desc := "(II)I" } : Jvm.MethodName) prog_1_method_6_code (3 : Nat) (Option.some Jvm.ClassFile.FieldType.int)) ∈ gtb := gtb_of (tb2 _ (List.mem_of_getElem? (i := 139) rfl)) rfl
theorem w2_140 : (Jvm.Cond.methodLink "BuyersArm" (99 : Nat) ({ cls := "BuyersArm$Told", name := "hasPerson", desc := "(I)Z" } : Jvm.MethodName)) ∈ gtb := gtb_of (tb2 _ (List.mem_of_getElem? (i := 140) rfl)) rfl
theorem w2_141 : (Jvm.Cond.methodLink "BuyersArm" (110 : Nat) ({ cls := "BuyersArm", name := "spentBy", desc := "(I)I" } : Jvm.MethodName)) ∈ gtb := gtb_of (tb2 _ (List.mem_of_getElem? (i := 141) rfl)) rfl
theorem w2_143 : (Jvm.Cond.instanceMethod ({ cls := "BuyersArm", name := "spentBy", desc := "(I)I" } : Jvm.MethodName)) ∈ gtb := gtb_of (tb2 _ (List.mem_of_getElem? (i := 143) rfl)) rfl
theorem w2_144 : (Jvm.Cond.code ({ cls := "BuyersArm", name := "spentBy", desc := "(I)I" } : Jvm.MethodName) prog_1_method_39_code (4 : Nat) (Option.some Jvm.ClassFile.FieldType.int)) ∈ gtb := gtb_of (tb2 _ (List.mem_of_getElem? (i := 144) rfl)) rfl
theorem w2_145 : (Jvm.Cond.methodLink "BuyersArm" (114 : Nat) ({ cls := "BuyersArm", name := "gotBy", desc := "(I)I" } : Jvm.MethodName)) ∈ gtb := gtb_of (tb2 _ (List.mem_of_getElem? (i := 145) rfl)) rfl
theorem w2_147 : (Jvm.Cond.instanceMethod ({ cls := "BuyersArm", name := "gotBy", desc := "(I)I" } : Jvm.MethodName)) ∈ gtb := gtb_of (tb2 _ (List.mem_of_getElem? (i := 147) rfl)) rfl
theorem w2_148 : (Jvm.Cond.code ({ cls := "BuyersArm", name := "gotBy", desc := "(I)I" } : Jvm.MethodName) prog_1_method_40_code (4 : Nat) (Option.some Jvm.ClassFile.FieldType.int)) ∈ gtb := gtb_of (tb2 _ (List.mem_of_getElem? (i := 148) rfl)) rfl
theorem w2_149 : (Jvm.Cond.methodLink "BuyersArm" (120 : Nat) ({ cls := "BuyersArm$Told", name := "isKeeper", desc := "(I)Z" } : Jvm.MethodName)) ∈ gtb := gtb_of (tb2 _ (List.mem_of_getElem? (i := 149) rfl)) rfl
theorem w2_150 : (Jvm.Cond.instanceMethod ({ cls := "BuyersArm$Told", name := "isKeeper", desc := "(I)Z" } : Jvm.MethodName)) ∈ gtb := gtb_of (tb2 _ (List.mem_of_getElem? (i := 150) rfl)) rfl
theorem w2_151 : (Jvm.Cond.selects "BuyersArm$Told" ({ cls := "BuyersArm$Told", name := "isKeeper", desc := "(I)Z" } : Jvm.MethodName) ({ cls := "BuyersArm$Told", name := "isKeeper", desc := "(I)Z" } : Jvm.MethodName)) ∈ gtb := gtb_of (tb2 _ (List.mem_of_getElem? (i := 151) rfl)) rfl
theorem w2_152 : (Jvm.Cond.code ({ cls := "BuyersArm$Told", name := "isKeeper", desc := "(I)Z" } : Jvm.MethodName) prog_8_method_6_code (2 : Nat) (Option.some Jvm.ClassFile.FieldType.boolean)) ∈ gtb := gtb_of (tb2 _ (List.mem_of_getElem? (i := 152) rfl)) rfl
theorem w2_153 : (Jvm.Cond.methodLink "BuyersArmLaw" (38 : Nat) ({ cls := "BuyersArm", name := "counter", desc := "(II)I" } : Jvm.MethodName)) ∈ gtb := gtb_of (tb2 _ (List.mem_of_getElem? (i := 153) rfl)) rfl
theorem w2_154 : (Jvm.Cond.instanceMethod ({ cls := "BuyersArm", name := "counter", desc := "(II)I" } : Jvm.MethodName)) ∈ gtb := gtb_of (tb2 _ (List.mem_of_getElem? (i := 154) rfl)) rfl
theorem w2_155 : (Jvm.Cond.selects "BuyersArm" ({ cls := "BuyersArm", name := "counter", desc := "(II)I" } : Jvm.MethodName) ({ cls := "BuyersArm", name := "counter", desc := "(II)I" } : Jvm.MethodName)) ∈ gtb := gtb_of (tb2 _ (List.mem_of_getElem? (i := 155) rfl)) rfl
theorem w2_156 : (Jvm.Cond.code ({ cls := "BuyersArm", name := "counter", desc := "(II)I" } : Jvm.MethodName) prog_1_method_7_code (3 : Nat) (Option.some Jvm.ClassFile.FieldType.int)) ∈ gtb := gtb_of (tb2 _ (List.mem_of_getElem? (i := 156) rfl)) rfl
theorem w2_157 : (Jvm.Cond.methodLink "BuyersArm" (123 : Nat) ({ cls := "BuyersArm$Told", name := "hasCounter", desc := "(I)Z" } : Jvm.MethodName)) ∈ gtb := gtb_of (tb2 _ (List.mem_of_getElem? (i := 157) rfl)) rfl
theorem w2_158 : (Jvm.Cond.methodLink "BuyersArm" (132 : Nat) ({ cls := "BuyersArm$Stand", name := "ellsSoldAt", desc := "(I)I" } : Jvm.MethodName)) ∈ gtb := gtb_of (tb2 _ (List.mem_of_getElem? (i := 158) rfl)) rfl
theorem w2_159 : (Jvm.Cond.instanceMethod ({ cls := "BuyersArm$Stand", name := "ellsSoldAt", desc := "(I)I" } : Jvm.MethodName)) ∈ gtb := gtb_of (tb2 _ (List.mem_of_getElem? (i := 159) rfl)) rfl
theorem w2_160 : (Jvm.Cond.selects "BuyersArm$Stand" ({ cls := "BuyersArm$Stand", name := "ellsSoldAt", desc := "(I)I" } : Jvm.MethodName) ({ cls := "BuyersArm$Stand", name := "ellsSoldAt", desc := "(I)I" } : Jvm.MethodName)) ∈ gtb := gtb_of (tb2 _ (List.mem_of_getElem? (i := 160) rfl)) rfl
theorem w2_161 : (Jvm.Cond.code ({ cls := "BuyersArm$Stand", name := "ellsSoldAt", desc := "(I)I" } : Jvm.MethodName) prog_7_method_6_code (4 : Nat) (Option.some Jvm.ClassFile.FieldType.int)) ∈ gtb := gtb_of (tb2 _ (List.mem_of_getElem? (i := 161) rfl)) rfl
theorem w2_162 : (Jvm.Cond.methodLink "BuyersArm" (135 : Nat) ({ cls := "BuyersArm$Stand", name := "lostAt", desc := "(I)I" } : Jvm.MethodName)) ∈ gtb := gtb_of (tb2 _ (List.mem_of_getElem? (i := 162) rfl)) rfl
theorem w2_163 : (Jvm.Cond.instanceMethod ({ cls := "BuyersArm$Stand", name := "lostAt", desc := "(I)I" } : Jvm.MethodName)) ∈ gtb := gtb_of (tb2 _ (List.mem_of_getElem? (i := 163) rfl)) rfl
theorem w2_164 : (Jvm.Cond.selects "BuyersArm$Stand" ({ cls := "BuyersArm$Stand", name := "lostAt", desc := "(I)I" } : Jvm.MethodName) ({ cls := "BuyersArm$Stand", name := "lostAt", desc := "(I)I" } : Jvm.MethodName)) ∈ gtb := gtb_of (tb2 _ (List.mem_of_getElem? (i := 164) rfl)) rfl
theorem w2_165 : (Jvm.Cond.code ({ cls := "BuyersArm$Stand", name := "lostAt", desc := "(I)I" } : Jvm.MethodName) prog_7_method_7_code (4 : Nat) (Option.some Jvm.ClassFile.FieldType.int)) ∈ gtb := gtb_of (tb2 _ (List.mem_of_getElem? (i := 165) rfl)) rfl
theorem w2_166 : (Jvm.Cond.constant "BuyersArm" (138 : Nat) (1000000 : Int32)) ∈ gtb := gtb_of (tb2 _ (List.mem_of_getElem? (i := 166) rfl)) rfl
theorem w2_167 : (Jvm.Cond.methodLink "BuyersArmLaw" (42 : Nat) ({ cls := "BuyersArm", name := "barred", desc := "(II)I" } : Jvm.MethodName)) ∈ gtb := gtb_of (tb2 _ (List.mem_of_getElem? (i := 167) rfl)) rfl
theorem w2_168 : (Jvm.Cond.instanceMethod ({ cls := "BuyersArm", name := "barred", desc := "(II)I" } : Jvm.MethodName)) ∈ gtb := gtb_of (tb2 _ (List.mem_of_getElem? (i := 168) rfl)) rfl
theorem w2_169 : (Jvm.Cond.selects "BuyersArm" ({ cls := "BuyersArm", name := "barred", desc := "(II)I" } : Jvm.MethodName) ({ cls := "BuyersArm", name := "barred", desc := "(II)I" } : Jvm.MethodName)) ∈ gtb := gtb_of (tb2 _ (List.mem_of_getElem? (i := 169) rfl)) rfl
theorem w2_170 : (Jvm.Cond.code ({ cls := "BuyersArm", name := "barred", desc := "(II)I" } : Jvm.MethodName) prog_1_method_8_code (3 : Nat) (Option.some Jvm.ClassFile.FieldType.int)) ∈ gtb := gtb_of (tb2 _ (List.mem_of_getElem? (i := 170) rfl)) rfl
theorem w2_171 : (Jvm.Cond.methodLink "BuyersArm" (139 : Nat) ({ cls := "BuyersArm$Told", name := "bars", desc := "(II)Z" } : Jvm.MethodName)) ∈ gtb := gtb_of (tb2 _ (List.mem_of_getElem? (i := 171) rfl)) rfl
theorem w2_172 : (Jvm.Cond.methodLink "BuyersArmLaw" (46 : Nat) ({ cls := "BuyersArm", name := "plaster", desc := "(II)I" } : Jvm.MethodName)) ∈ gtb := gtb_of (tb2 _ (List.mem_of_getElem? (i := 172) rfl)) rfl
theorem w2_173 : (Jvm.Cond.instanceMethod ({ cls := "BuyersArm", name := "plaster", desc := "(II)I" } : Jvm.MethodName)) ∈ gtb := gtb_of (tb2 _ (List.mem_of_getElem? (i := 173) rfl)) rfl
theorem w2_174 : (Jvm.Cond.selects "BuyersArm" ({ cls := "BuyersArm", name := "plaster", desc := "(II)I" } : Jvm.MethodName) ({ cls := "BuyersArm", name := "plaster", desc := "(II)I" } : Jvm.MethodName)) ∈ gtb := gtb_of (tb2 _ (List.mem_of_getElem? (i := 174) rfl)) rfl
theorem w2_175 : (Jvm.Cond.code ({ cls := "BuyersArm", name := "plaster", desc := "(II)I" } : Jvm.MethodName) prog_1_method_9_code (4 : Nat) (Option.some Jvm.ClassFile.FieldType.int)) ∈ gtb := gtb_of (tb2 _ (List.mem_of_getElem? (i := 175) rfl)) rfl
theorem w2_176 : (Jvm.Cond.methodLink "BuyersArmLaw" (50 : Nat) ({ cls := "BuyersArm", name := "common", desc := "(I)I" } : Jvm.MethodName)) ∈ gtb := gtb_of (tb2 _ (List.mem_of_getElem? (i := 176) rfl)) rfl
theorem w2_177 : (Jvm.Cond.instanceMethod ({ cls := "BuyersArm", name := "common", desc := "(I)I" } : Jvm.MethodName)) ∈ gtb := gtb_of (tb2 _ (List.mem_of_getElem? (i := 177) rfl)) rfl
theorem w2_178 : (Jvm.Cond.selects "BuyersArm" ({ cls := "BuyersArm", name := "common", desc := "(I)I" } : Jvm.MethodName) ({ cls := "BuyersArm", name := "common", desc := "(I)I" } : Jvm.MethodName)) ∈ gtb := gtb_of (tb2 _ (List.mem_of_getElem? (i := 178) rfl)) rfl
theorem w2_179 : (Jvm.Cond.code ({ cls := "BuyersArm", name := "common", desc := "(I)I" } : Jvm.MethodName) prog_1_method_10_code (3 : Nat) (Option.some Jvm.ClassFile.FieldType.int)) ∈ gtb := gtb_of (tb2 _ (List.mem_of_getElem? (i := 179) rfl)) rfl
theorem w2_180 : (Jvm.Cond.methodLink "BuyersArmLaw" (55 : Nat) ({ cls := "BuyersArm", name := "buy", desc := "(III)I" } : Jvm.MethodName)) ∈ gtb := gtb_of (tb2 _ (List.mem_of_getElem? (i := 180) rfl)) rfl
theorem w2_181 : (Jvm.Cond.instanceMethod ({ cls := "BuyersArm", name := "buy", desc := "(III)I" } : Jvm.MethodName)) ∈ gtb := gtb_of (tb2 _ (List.mem_of_getElem? (i := 181) rfl)) rfl
theorem w2_182 : (Jvm.Cond.selects "BuyersArm" ({ cls := "BuyersArm", name := "buy", desc := "(III)I" } : Jvm.MethodName) ({ cls := "BuyersArm", name := "buy", desc := "(III)I" } : Jvm.MethodName)) ∈ gtb := gtb_of (tb2 _ (List.mem_of_getElem? (i := 182) rfl)) rfl
theorem w2_183 : (Jvm.Cond.code ({ cls := "BuyersArm", name := "buy", desc := "(III)I" } : Jvm.MethodName) prog_1_method_11_code (5 : Nat) (Option.some Jvm.ClassFile.FieldType.int)) ∈ gtb := gtb_of (tb2 _ (List.mem_of_getElem? (i := 183) rfl)) rfl
theorem w2_184 : (Jvm.Cond.methodLink "BuyersArm" (149 : Nat) ({ cls := "BuyersArm$Stand", name := "sell", desc := "(III)V" } : Jvm.MethodName)) ∈ gtb := gtb_of (tb2 _ (List.mem_of_getElem? (i := 184) rfl)) rfl
theorem w2_185 : (Jvm.Cond.instanceMethod ({ cls := "BuyersArm$Stand", name := "sell", desc := "(III)V" } : Jvm.MethodName)) ∈ gtb := gtb_of (tb2 _ (List.mem_of_getElem? (i := 185) rfl)) rfl
theorem w2_186 : (Jvm.Cond.selects "BuyersArm$Stand" ({ cls := "BuyersArm$Stand", name := "sell", desc := "(III)V" } : Jvm.MethodName) ({ cls := "BuyersArm$Stand", name := "sell", desc := "(III)V" } : Jvm.MethodName)) ∈ gtb := gtb_of (tb2 _ (List.mem_of_getElem? (i := 186) rfl)) rfl
theorem w2_187 : (Jvm.Cond.code ({ cls := "BuyersArm$Stand", name := "sell", desc := "(III)V" } : Jvm.MethodName) prog_7_method_4_code (4 : Nat) (Option.none : Option Jvm.ClassFile.FieldType)) ∈ gtb := gtb_of (tb2 _ (List.mem_of_getElem? (i := 187) rfl)) rfl
theorem w2_188 : (Jvm.Cond.methodLink "BuyersArmLaw" (60 : Nat) ({ cls := "BuyersArm", name := "undo", desc := "()I" } : Jvm.MethodName)) ∈ gtb := gtb_of (tb2 _ (List.mem_of_getElem? (i := 188) rfl)) rfl
theorem w2_189 : (Jvm.Cond.instanceMethod ({ cls := "BuyersArm", name := "undo", desc := "()I" } : Jvm.MethodName)) ∈ gtb := gtb_of (tb2 _ (List.mem_of_getElem? (i := 189) rfl)) rfl
theorem w2_190 : (Jvm.Cond.selects "BuyersArm" ({ cls := "BuyersArm", name := "undo", desc := "()I" } : Jvm.MethodName) ({ cls := "BuyersArm", name := "undo", desc := "()I" } : Jvm.MethodName)) ∈ gtb := gtb_of (tb2 _ (List.mem_of_getElem? (i := 190) rfl)) rfl
theorem w2_191 : (Jvm.Cond.code ({ cls := "BuyersArm", name := "undo", desc := "()I" } : Jvm.MethodName) prog_1_method_12_code (1 : Nat) (Option.some Jvm.ClassFile.FieldType.int)) ∈ gtb := gtb_of (tb2 _ (List.mem_of_getElem? (i := 191) rfl)) rfl
theorem w2_192 : (Jvm.Cond.methodLink "BuyersArm" (153 : Nat) ({ cls := "BuyersArm$Stand", name := "takeBack", desc := "()V" } : Jvm.MethodName)) ∈ gtb := gtb_of (tb2 _ (List.mem_of_getElem? (i := 192) rfl)) rfl
theorem w2_193 : (Jvm.Cond.instanceMethod ({ cls := "BuyersArm$Stand", name := "takeBack", desc := "()V" } : Jvm.MethodName)) ∈ gtb := gtb_of (tb2 _ (List.mem_of_getElem? (i := 193) rfl)) rfl
theorem w2_194 : (Jvm.Cond.selects "BuyersArm$Stand" ({ cls := "BuyersArm$Stand", name := "takeBack", desc := "()V" } : Jvm.MethodName) ({ cls := "BuyersArm$Stand", name := "takeBack", desc := "()V" } : Jvm.MethodName)) ∈ gtb := gtb_of (tb2 _ (List.mem_of_getElem? (i := 194) rfl)) rfl
theorem w2_195 : (Jvm.Cond.code ({ cls := "BuyersArm$Stand", name := "takeBack", desc := "()V" } : Jvm.MethodName) prog_7_method_5_code (1 : Nat) (Option.none : Option Jvm.ClassFile.FieldType)) ∈ gtb := gtb_of (tb2 _ (List.mem_of_getElem? (i := 195) rfl)) rfl
theorem w2_196 : (Jvm.Cond.methodLink "BuyersArmLaw" (64 : Nat) ({ cls := "BuyersArm", name := "sale", desc := "(II)I" } : Jvm.MethodName)) ∈ gtb := gtb_of (tb2 _ (List.mem_of_getElem? (i := 196) rfl)) rfl
theorem w2_197 : (Jvm.Cond.instanceMethod ({ cls := "BuyersArm", name := "sale", desc := "(II)I" } : Jvm.MethodName)) ∈ gtb := gtb_of (tb2 _ (List.mem_of_getElem? (i := 197) rfl)) rfl
theorem w2_198 : (Jvm.Cond.selects "BuyersArm" ({ cls := "BuyersArm", name := "sale", desc := "(II)I" } : Jvm.MethodName) ({ cls := "BuyersArm", name := "sale", desc := "(II)I" } : Jvm.MethodName)) ∈ gtb := gtb_of (tb2 _ (List.mem_of_getElem? (i := 198) rfl)) rfl
theorem w2_199 : (Jvm.Cond.code ({ cls := "BuyersArm", name := "sale", desc := "(II)I" } : Jvm.MethodName) prog_1_method_13_code (3 : Nat) (Option.some Jvm.ClassFile.FieldType.int)) ∈ gtb := gtb_of (tb2 _ (List.mem_of_getElem? (i := 199) rfl)) rfl
theorem w2_200 : (Jvm.Cond.methodLink "BuyersArmLaw" (68 : Nat) ({ cls := "BuyersArm", name := "truly", desc := "(IIZ)I" } : Jvm.MethodName)) ∈ gtb := gtb_of (tb2 _ (List.mem_of_getElem? (i := 200) rfl)) rfl
theorem w2_201 : (Jvm.Cond.instanceMethod ({ cls := "BuyersArm", name := "truly", desc := "(IIZ)I" } : Jvm.MethodName)) ∈ gtb := gtb_of (tb2 _ (List.mem_of_getElem? (i := 201) rfl)) rfl
theorem w2_202 : (Jvm.Cond.selects "BuyersArm" ({ cls := "BuyersArm", name := "truly", desc := "(IIZ)I" } : Jvm.MethodName) ({ cls := "BuyersArm", name := "truly", desc := "(IIZ)I" } : Jvm.MethodName)) ∈ gtb := gtb_of (tb2 _ (List.mem_of_getElem? (i := 202) rfl)) rfl
theorem w2_203 : (Jvm.Cond.code ({ cls := "BuyersArm", name := "truly", desc := "(IIZ)I" } : Jvm.MethodName) prog_1_method_14_code (4 : Nat) (Option.some Jvm.ClassFile.FieldType.int)) ∈ gtb := gtb_of (tb2 _ (List.mem_of_getElem? (i := 203) rfl)) rfl
theorem w2_204 : (Jvm.Cond.methodLink "BuyersArm" (168 : Nat) ({ cls := "BuyersArm", name := "inLeastTerms", desc := "(JJZ)J" } : Jvm.MethodName)) ∈ gtb := gtb_of (tb2 _ (List.mem_of_getElem? (i := 204) rfl)) rfl
theorem w2_205 : (Jvm.Cond.static ({ cls := "BuyersArm", name := "inLeastTerms", desc := "(JJZ)J" } : Jvm.MethodName)) ∈ gtb := gtb_of (tb2 _ (List.mem_of_getElem? (i := 205) rfl)) rfl
theorem w2_206 : (Jvm.Cond.code ({ cls := "BuyersArm", name := "inLeastTerms", desc := "(JJZ)J" } : Jvm.MethodName) prog_1_method_38_code (12 : Nat) (Option.some Jvm.ClassFile.FieldType.long)) ∈ gtb := gtb_of (tb2 _ (List.mem_of_getElem? (i := 206) rfl)) rfl
theorem w2_207 : (Jvm.Cond.methodLink "BuyersArmLaw" (73 : Nat) ({ cls := "BuyersArm", name := "cheapest", desc := "(II)I" } : Jvm.MethodName)) ∈ gtb := gtb_of (tb2 _ (List.mem_of_getElem? (i := 207) rfl)) rfl
theorem w2_208 : (Jvm.Cond.instanceMethod ({ cls := "BuyersArm", name := "cheapest", desc := "(II)I" } : Jvm.MethodName)) ∈ gtb := gtb_of (tb2 _ (List.mem_of_getElem? (i := 208) rfl)) rfl
theorem w2_209 : (Jvm.Cond.selects "BuyersArm" ({ cls := "BuyersArm", name := "cheapest", desc := "(II)I" } : Jvm.MethodName) ({ cls := "BuyersArm", name := "cheapest", desc := "(II)I" } : Jvm.MethodName)) ∈ gtb := gtb_of (tb2 _ (List.mem_of_getElem? (i := 209) rfl)) rfl
theorem w2_210 : (Jvm.Cond.code ({ cls := "BuyersArm", name := "cheapest", desc := "(II)I" } : Jvm.MethodName) prog_1_method_15_code (3 : Nat) (Option.some Jvm.ClassFile.FieldType.int)) ∈ gtb := gtb_of (tb2 _ (List.mem_of_getElem? (i := 210) rfl)) rfl
theorem w2_211 : (Jvm.Cond.methodLink "BuyersArm" (172 : Nat) ({ cls := "BuyersArm$Want", name := "reckon", desc := "(LBuyersArm$Told;LBuyersArm$Stand;II)Z" } : Jvm.MethodName)) ∈ gtb := gtb_of (tb2 _ (List.mem_of_getElem? (i := 211) rfl)) rfl
theorem w2_212 : (Jvm.Cond.instanceMethod ({ cls := "BuyersArm$Want", name := "reckon", desc := "(LBuyersArm$Told;LBuyersArm$Stand;II)Z" } : Jvm.MethodName)) ∈ gtb := gtb_of (tb2 _ (List.mem_of_getElem? (i := 212) rfl)) rfl
theorem w2_213 : (Jvm.Cond.selects "BuyersArm$Want" ({ cls := "BuyersArm$Want", name := "reckon", desc := "(LBuyersArm$Told;LBuyersArm$Stand;II)Z" } : Jvm.MethodName) ({ cls := "BuyersArm$Want", name := "reckon", desc := "(LBuyersArm$Told;LBuyersArm$Stand;II)Z" } : Jvm.MethodName)) ∈ gtb := gtb_of (tb2 _ (List.mem_of_getElem? (i := 213) rfl)) rfl
theorem w2_214 : (Jvm.Cond.code ({ cls := "BuyersArm$Want", name := "reckon", desc := "(LBuyersArm$Told;LBuyersArm$Stand;II)Z" } : Jvm.MethodName) prog_9_method_2_code (6 : Nat) (Option.some Jvm.ClassFile.FieldType.boolean)) ∈ gtb := gtb_of (tb2 _ (List.mem_of_getElem? (i := 214) rfl)) rfl
theorem w2_215 : (Jvm.Cond.methodLink "BuyersArm$Want" (28 : Nat) ({ cls := "java/lang/Math", name := "min", desc := "(II)I" } : Jvm.MethodName)) ∈ gtb := gtb_of (tb2 _ (List.mem_of_getElem? (i := 215) rfl)) rfl
theorem w2_216 : (Jvm.Cond.static ({ cls := "java/lang/Math", name := "min", desc := "(II)I" } : Jvm.MethodName)) ∈ gtb := gtb_of (tb2 _ (List.mem_of_getElem? (i := 216) rfl)) rfl
theorem w2_217 : (Jvm.Cond.code ({ cls := "java/lang/Math", name := "min", desc := "(II)I" } : Jvm.MethodName) prog_13_method_69_code (2 : Nat) (Option.some Jvm.ClassFile.FieldType.int)) ∈ gtb := gtb_of (tb2 _ (List.mem_of_getElem? (i := 217) rfl)) rfl
theorem w2_218 : (Jvm.Cond.constant "BuyersArm$Want" (43 : Nat) (1000000000 : Int32)) ∈ gtb := gtb_of (tb2 _ (List.mem_of_getElem? (i := 218) rfl)) rfl
theorem w2_219 : (Jvm.Cond.methodLink "BuyersArm$Want" (44 : Nat) ({ cls := "java/util/Arrays", name := "fill", desc := "([II)V" } : Jvm.MethodName)) ∈ gtb := gtb_of (tb2 _ (List.mem_of_getElem? (i := 219) rfl)) rfl
theorem w2_220 : (Jvm.Cond.methodLink "BuyersArm$Want" (50 : Nat) ({ cls := "BuyersArm$Told", name := "bars", desc := "(II)Z" } : Jvm.MethodName)) ∈ gtb := gtb_of (tb2 _ (List.mem_of_getElem? (i := 220) rfl)) rfl
theorem w2_221 : (Jvm.Cond.methodLink "BuyersArm$Want" (54 : Nat) ({ cls := "java/lang/System", name := "arraycopy", desc := "(Ljava/lang/Object;ILjava/lang/Object;II)V" } : Jvm.MethodName)) ∈ gtb := gtb_of (tb2 _ (List.mem_of_getElem? (i := 221) rfl)) rfl
theorem w2_222 : (Jvm.Cond.methodLink "BuyersArm$Want" (63 : Nat) ({ cls := "BuyersArm$Want", name := "hire", desc := "(LBuyersArm$Told;I)I" } : Jvm.MethodName)) ∈ gtb := gtb_of (tb2 _ (List.mem_of_getElem? (i := 222) rfl)) rfl
theorem w2_223 : (Jvm.Cond.static ({ cls := "BuyersArm$Want", name := "hire", desc := "(LBuyersArm$Told;I)I" } : Jvm.MethodName)) ∈ gtb := gtb_of (tb2 _ (List.mem_of_getElem? (i := 223) rfl)) rfl
theorem w2_224 : (Jvm.Cond.code ({ cls := "BuyersArm$Want", name := "hire", desc := "(LBuyersArm$Told;I)I" } : Jvm.MethodName) prog_9_method_5_code (2 : Nat) (Option.some Jvm.ClassFile.FieldType.int)) ∈ gtb := gtb_of (tb2 _ (List.mem_of_getElem? (i := 224) rfl)) rfl
theorem w2_225 : (Jvm.Cond.methodLink "BuyersArm$Want" (70 : Nat) ({ cls := "BuyersArm$Want", name := "fill", desc := "(IIII)V" } : Jvm.MethodName)) ∈ gtb := gtb_of (tb2 _ (List.mem_of_getElem? (i := 225) rfl)) rfl
theorem w2_227 : (Jvm.Cond.instanceMethod ({ cls := "BuyersArm$Want", name := "fill", desc := "(IIII)V" } : Jvm.MethodName)) ∈ gtb := gtb_of (tb2 _ (List.mem_of_getElem? (i := 227) rfl)) rfl
theorem w2_228 : (Jvm.Cond.code ({ cls := "BuyersArm$Want", name := "fill", desc := "(IIII)V" } : Jvm.MethodName) prog_9_method_6_code (10 : Nat) (Option.none : Option Jvm.ClassFile.FieldType)) ∈ gtb := gtb_of (tb2 _ (List.mem_of_getElem? (i := 228) rfl)) rfl
theorem w2_229 : (Jvm.Cond.methodLink "BuyersArm" (176 : Nat) ({ cls := "BuyersArm$Want", name := "coins", desc := "()I" } : Jvm.MethodName)) ∈ gtb := gtb_of (tb2 _ (List.mem_of_getElem? (i := 229) rfl)) rfl
theorem w2_230 : (Jvm.Cond.instanceMethod ({ cls := "BuyersArm$Want", name := "coins", desc := "()I" } : Jvm.MethodName)) ∈ gtb := gtb_of (tb2 _ (List.mem_of_getElem? (i := 230) rfl)) rfl
theorem w2_231 : (Jvm.Cond.selects "BuyersArm$Want" ({ cls := "BuyersArm$Want", name := "coins", desc := "()I" } : Jvm.MethodName) ({ cls := "BuyersArm$Want", name := "coins", desc := "()I" } : Jvm.MethodName)) ∈ gtb := gtb_of (tb2 _ (List.mem_of_getElem? (i := 231) rfl)) rfl
theorem w2_232 : (Jvm.Cond.code ({ cls := "BuyersArm$Want", name := "coins", desc := "()I" } : Jvm.MethodName) prog_9_method_3_code (1 : Nat) (Option.some Jvm.ClassFile.FieldType.int)) ∈ gtb := gtb_of (tb2 _ (List.mem_of_getElem? (i := 232) rfl)) rfl
theorem w2_233 : (Jvm.Cond.methodLink "BuyersArmLaw" (77 : Nat) ({ cls := "BuyersArm", name := "cheapestBy", desc := "(III)I" } : Jvm.MethodName)) ∈ gtb := gtb_of (tb2 _ (List.mem_of_getElem? (i := 233) rfl)) rfl
theorem w2_234 : (Jvm.Cond.instanceMethod ({ cls := "BuyersArm", name := "cheapestBy", desc := "(III)I" } : Jvm.MethodName)) ∈ gtb := gtb_of (tb2 _ (List.mem_of_getElem? (i := 234) rfl)) rfl
theorem w2_235 : (Jvm.Cond.selects "BuyersArm" ({ cls := "BuyersArm", name := "cheapestBy", desc := "(III)I" } : Jvm.MethodName) ({ cls := "BuyersArm", name := "cheapestBy", desc := "(III)I" } : Jvm.MethodName)) ∈ gtb := gtb_of (tb2 _ (List.mem_of_getElem? (i := 235) rfl)) rfl
theorem w2_236 : (Jvm.Cond.code ({ cls := "BuyersArm", name := "cheapestBy", desc := "(III)I" } : Jvm.MethodName) prog_1_method_16_code (4 : Nat) (Option.some Jvm.ClassFile.FieldType.int)) ∈ gtb := gtb_of (tb2 _ (List.mem_of_getElem? (i := 236) rfl)) rfl
theorem w2_237 : (Jvm.Cond.methodLink "BuyersArm" (180 : Nat) ({ cls := "BuyersArm$Want", name := "shareOut", desc := "(LBuyersArm$Told;LBuyersArm$Stand;II)V" } : Jvm.MethodName)) ∈ gtb := gtb_of (tb2 _ (List.mem_of_getElem? (i := 237) rfl)) rfl
theorem w2_238 : (Jvm.Cond.instanceMethod ({ cls := "BuyersArm$Want", name := "shareOut", desc := "(LBuyersArm$Told;LBuyersArm$Stand;II)V" } : Jvm.MethodName)) ∈ gtb := gtb_of (tb2 _ (List.mem_of_getElem? (i := 238) rfl)) rfl
theorem w2_239 : (Jvm.Cond.selects "BuyersArm$Want" ({ cls := "BuyersArm$Want", name := "shareOut", desc := "(LBuyersArm$Told;LBuyersArm$Stand;II)V" } : Jvm.MethodName) ({ cls := "BuyersArm$Want", name := "shareOut", desc := "(LBuyersArm$Told;LBuyersArm$Stand;II)V" } : Jvm.MethodName)) ∈ gtb := gtb_of (tb2 _ (List.mem_of_getElem? (i := 239) rfl)) rfl
theorem w3_0 : (Jvm.Cond.code ({ cls := "BuyersArm$Want", name := "shareOut", desc := "(LBuyersArm$Told;LBuyersArm$Stand;II)V" } : Jvm.MethodName) prog_9_method_4_code (10 : Nat) (Option.none : Option Jvm.ClassFile.FieldType)) ∈ gtb := gtb_of (tb3 _ (List.mem_of_getElem? (i := 0) rfl)) rfl
theorem w3_1 : (Jvm.Cond.methodLink "BuyersArm$Want" (76 : Nat) ({ cls := "BuyersArm$Want", name := "fewestOf", desc := "([IIIIII)I" } : Jvm.MethodName)) ∈ gtb := gtb_of (tb3 _ (List.mem_of_getElem? (i := 1) rfl)) rfl
theorem w3_2 : (Jvm.Cond.static ({ cls := "BuyersArm$Want", name := "fewestOf", desc := "([IIIIII)I" } : Jvm.MethodName)) ∈ gtb := gtb_of (tb3 _ (List.mem_of_getElem? (i := 2) rfl)) rfl
theorem w3_3 : (Jvm.Cond.code ({ cls := "BuyersArm$Want", name := "fewestOf", desc := "([IIIIII)I" } : Jvm.MethodName) prog_9_method_7_code (10 : Nat) (Option.some Jvm.ClassFile.FieldType.int)) ∈ gtb := gtb_of (tb3 _ (List.mem_of_getElem? (i := 3) rfl)) rfl
theorem w3_4 : (Jvm.Cond.methodLink "BuyersArm$Want" (83 : Nat) ({ cls := "java/lang/Math", name := "max", desc := "(II)I" } : Jvm.MethodName)) ∈ gtb := gtb_of (tb3 _ (List.mem_of_getElem? (i := 4) rfl)) rfl
theorem w3_5 : (Jvm.Cond.static ({ cls := "java/lang/Math", name := "max", desc := "(II)I" } : Jvm.MethodName)) ∈ gtb := gtb_of (tb3 _ (List.mem_of_getElem? (i := 5) rfl)) rfl
theorem w3_6 : (Jvm.Cond.code ({ cls := "java/lang/Math", name := "max", desc := "(II)I" } : Jvm.MethodName) prog_13_method_65_code (2 : Nat) (Option.some Jvm.ClassFile.FieldType.int)) ∈ gtb := gtb_of (tb3 _ (List.mem_of_getElem? (i := 6) rfl)) rfl
theorem w3_7 : (Jvm.Cond.methodLink "BuyersArmLaw" (81 : Nat) ({ cls := "BuyersArm", name := "exchange", desc := "(IIIII)I" } : Jvm.MethodName)) ∈ gtb := gtb_of (tb3 _ (List.mem_of_getElem? (i := 7) rfl)) rfl
theorem w3_8 : (Jvm.Cond.instanceMethod ({ cls := "BuyersArm", name := "exchange", desc := "(IIIII)I" } : Jvm.MethodName)) ∈ gtb := gtb_of (tb3 _ (List.mem_of_getElem? (i := 8) rfl)) rfl
theorem w3_9 : (Jvm.Cond.selects "BuyersArm" ({ cls := "BuyersArm", name := "exchange", desc := "(IIIII)I" } : Jvm.MethodName) ({ cls := "BuyersArm", name := "exchange", desc := "(IIIII)I" } : Jvm.MethodName)) ∈ gtb := gtb_of (tb3 _ (List.mem_of_getElem? (i := 9) rfl)) rfl
theorem w3_10 : (Jvm.Cond.code ({ cls := "BuyersArm", name := "exchange", desc := "(IIIII)I" } : Jvm.MethodName) prog_1_method_17_code (6 : Nat) (Option.some Jvm.ClassFile.FieldType.int)) ∈ gtb := gtb_of (tb3 _ (List.mem_of_getElem? (i := 10) rfl)) rfl
theorem w3_11 : (Jvm.Cond.methodLink "BuyersArm" (188 : Nat) ({ cls := "BuyersArm$Exchanges", name := "add", desc := "(IIIII)V" } : Jvm.MethodName)) ∈ gtb := gtb_of (tb3 _ (List.mem_of_getElem? (i := 11) rfl)) rfl
theorem w3_12 : (Jvm.Cond.instanceMethod ({ cls := "BuyersArm$Exchanges", name := "add", desc := "(IIIII)V" } : Jvm.MethodName)) ∈ gtb := gtb_of (tb3 _ (List.mem_of_getElem? (i := 12) rfl)) rfl
theorem w3_13 : (Jvm.Cond.selects "BuyersArm$Exchanges" ({ cls := "BuyersArm$Exchanges", name := "add", desc := "(IIIII)V" } : Jvm.MethodName) ({ cls := "BuyersArm$Exchanges", name := "add", desc := "(IIIII)V" } : Jvm.MethodName)) ∈ gtb := gtb_of (tb3 _ (List.mem_of_getElem? (i := 13) rfl)) rfl
theorem w3_14 : (Jvm.Cond.code ({ cls := "BuyersArm$Exchanges", name := "add", desc := "(IIIII)V" } : Jvm.MethodName) prog_2_method_2_code (6 : Nat) (Option.none : Option Jvm.ClassFile.FieldType)) ∈ gtb := gtb_of (tb3 _ (List.mem_of_getElem? (i := 14) rfl)) rfl
theorem w3_15 : (Jvm.Cond.methodLink "BuyersArmLaw" (86 : Nat) ({ cls := "BuyersArm", name := "unchange", desc := "()I" } : Jvm.MethodName)) ∈ gtb := gtb_of (tb3 _ (List.mem_of_getElem? (i := 15) rfl)) rfl
theorem w3_16 : (Jvm.Cond.instanceMethod ({ cls := "BuyersArm", name := "unchange", desc := "()I" } : Jvm.MethodName)) ∈ gtb := gtb_of (tb3 _ (List.mem_of_getElem? (i := 16) rfl)) rfl
theorem w3_17 : (Jvm.Cond.selects "BuyersArm" ({ cls := "BuyersArm", name := "unchange", desc := "()I" } : Jvm.MethodName) ({ cls := "BuyersArm", name := "unchange", desc := "()I" } : Jvm.MethodName)) ∈ gtb := gtb_of (tb3 _ (List.mem_of_getElem? (i := 17) rfl)) rfl
theorem w3_18 : (Jvm.Cond.code ({ cls := "BuyersArm", name := "unchange", desc := "()I" } : Jvm.MethodName) prog_1_method_18_code (2 : Nat) (Option.some Jvm.ClassFile.FieldType.int)) ∈ gtb := gtb_of (tb3 _ (List.mem_of_getElem? (i := 18) rfl)) rfl
theorem w3_19 : (Jvm.Cond.methodLink "BuyersArmLaw" (90 : Nat) ({ cls := "BuyersArm", name := "ring", desc := "(IZ)J" } : Jvm.MethodName)) ∈ gtb := gtb_of (tb3 _ (List.mem_of_getElem? (i := 19) rfl)) rfl
theorem w3_20 : (Jvm.Cond.instanceMethod ({ cls := "BuyersArm", name := "ring", desc := "(IZ)J" } : Jvm.MethodName)) ∈ gtb := gtb_of (tb3 _ (List.mem_of_getElem? (i := 20) rfl)) rfl
theorem w3_21 : (Jvm.Cond.selects "BuyersArm" ({ cls := "BuyersArm", name := "ring", desc := "(IZ)J" } : Jvm.MethodName) ({ cls := "BuyersArm", name := "ring", desc := "(IZ)J" } : Jvm.MethodName)) ∈ gtb := gtb_of (tb3 _ (List.mem_of_getElem? (i := 21) rfl)) rfl
theorem w3_22 : (Jvm.Cond.code ({ cls := "BuyersArm", name := "ring", desc := "(IZ)J" } : Jvm.MethodName) prog_1_method_19_code (3 : Nat) (Option.some Jvm.ClassFile.FieldType.long)) ∈ gtb := gtb_of (tb3 _ (List.mem_of_getElem? (i := 22) rfl)) rfl
theorem w3_23 : (Jvm.Cond.constantLong "BuyersArm" (192 : Nat) (-1 : Int64)) ∈ gtb := gtb_of (tb3 _ (List.mem_of_getElem? (i := 23) rfl)) rfl
theorem w3_24 : (Jvm.Cond.methodLink "BuyersArm" (194 : Nat) ({ cls := "BuyersArm$Exchanges", name := "seekBest", desc := "(I)V" } : Jvm.MethodName)) ∈ gtb := gtb_of (tb3 _ (List.mem_of_getElem? (i := 24) rfl)) rfl
theorem w3_25 : (Jvm.Cond.instanceMethod ({ cls := "BuyersArm$Exchanges", name := "seekBest", desc := "(I)V" } : Jvm.MethodName)) ∈ gtb := gtb_of (tb3 _ (List.mem_of_getElem? (i := 25) rfl)) rfl
theorem w3_26 : (Jvm.Cond.selects "BuyersArm$Exchanges" ({ cls := "BuyersArm$Exchanges", name := "seekBest", desc := "(I)V" } : Jvm.MethodName) ({ cls := "BuyersArm$Exchanges", name := "seekBest", desc := "(I)V" } : Jvm.MethodName)) ∈ gtb := gtb_of (tb3 _ (List.mem_of_getElem? (i := 26) rfl)) rfl
theorem w3_27 : (Jvm.Cond.code ({ cls := "BuyersArm$Exchanges", name := "seekBest", desc := "(I)V" } : Jvm.MethodName) prog_2_method_3_code (4 : Nat) (Option.none : Option Jvm.ClassFile.FieldType)) ∈ gtb := gtb_of (tb3 _ (List.mem_of_getElem? (i := 27) rfl)) rfl
theorem w3_28 : (Jvm.Cond.methodLink "BuyersArm$Exchanges" (44 : Nat) ({ cls := "BuyersArm$Exchanges", name := "follows", desc := "(II)Z" } : Jvm.MethodName)) ∈ gtb := gtb_of (tb3 _ (List.mem_of_getElem? (i := 28) rfl)) rfl
theorem w3_30 : (Jvm.Cond.instanceMethod ({ cls := "BuyersArm$Exchanges", name := "follows", desc := "(II)Z" } : Jvm.MethodName)) ∈ gtb := gtb_of (tb3 _ (List.mem_of_getElem? (i := 30) rfl)) rfl
theorem w3_31 : (Jvm.Cond.code ({ cls := "BuyersArm$Exchanges", name := "follows", desc := "(II)Z" } : Jvm.MethodName) prog_2_method_5_code (3 : Nat) (Option.some Jvm.ClassFile.FieldType.boolean)) ∈ gtb := gtb_of (tb3 _ (List.mem_of_getElem? (i := 31) rfl)) rfl
theorem w3_32 : (Jvm.Cond.methodLink "BuyersArm$Exchanges" (48 : Nat) ({ cls := "BuyersArm$Exchanges", name := "offer", desc := "(IIIII)V" } : Jvm.MethodName)) ∈ gtb := gtb_of (tb3 _ (List.mem_of_getElem? (i := 32) rfl)) rfl
theorem w3_34 : (Jvm.Cond.instanceMethod ({ cls := "BuyersArm$Exchanges", name := "offer", desc := "(IIIII)V" } : Jvm.MethodName)) ∈ gtb := gtb_of (tb3 _ (List.mem_of_getElem? (i := 34) rfl)) rfl
theorem w3_35 : (Jvm.Cond.code ({ cls := "BuyersArm$Exchanges", name := "offer", desc := "(IIIII)V" } : Jvm.MethodName) prog_2_method_6_code (10 : Nat) (Option.none : Option Jvm.ClassFile.FieldType)) ∈ gtb := gtb_of (tb3 _ (List.mem_of_getElem? (i := 35) rfl)) rfl
theorem w3_36 : (Jvm.Cond.methodLink "BuyersArm$Exchanges" (56 : Nat) ({ cls := "BuyersArm$Exchanges", name := "got", desc := "(II)J" } : Jvm.MethodName)) ∈ gtb := gtb_of (tb3 _ (List.mem_of_getElem? (i := 36) rfl)) rfl
theorem w3_38 : (Jvm.Cond.instanceMethod ({ cls := "BuyersArm$Exchanges", name := "got", desc := "(II)J" } : Jvm.MethodName)) ∈ gtb := gtb_of (tb3 _ (List.mem_of_getElem? (i := 38) rfl)) rfl
theorem w3_39 : (Jvm.Cond.code ({ cls := "BuyersArm$Exchanges", name := "got", desc := "(II)J" } : Jvm.MethodName) prog_2_method_7_code (3 : Nat) (Option.some Jvm.ClassFile.FieldType.long)) ∈ gtb := gtb_of (tb3 _ (List.mem_of_getElem? (i := 39) rfl)) rfl
theorem w3_40 : (Jvm.Cond.methodLink "BuyersArm$Exchanges" (60 : Nat) ({ cls := "BuyersArm$Exchanges", name := "paid", desc := "(I)J" } : Jvm.MethodName)) ∈ gtb := gtb_of (tb3 _ (List.mem_of_getElem? (i := 40) rfl)) rfl
theorem w3_42 : (Jvm.Cond.instanceMethod ({ cls := "BuyersArm$Exchanges", name := "paid", desc := "(I)J" } : Jvm.MethodName)) ∈ gtb := gtb_of (tb3 _ (List.mem_of_getElem? (i := 42) rfl)) rfl
theorem w3_43 : (Jvm.Cond.code ({ cls := "BuyersArm$Exchanges", name := "paid", desc := "(I)J" } : Jvm.MethodName) prog_2_method_8_code (2 : Nat) (Option.some Jvm.ClassFile.FieldType.long)) ∈ gtb := gtb_of (tb3 _ (List.mem_of_getElem? (i := 43) rfl)) rfl
theorem w3_44 : (Jvm.Cond.methodLink "BuyersArm$Exchanges" (52 : Nat) ({ cls := "BuyersArm$Exchanges", name := "seekThird", desc := "(III)V" } : Jvm.MethodName)) ∈ gtb := gtb_of (tb3 _ (List.mem_of_getElem? (i := 44) rfl)) rfl
theorem w3_46 : (Jvm.Cond.instanceMethod ({ cls := "BuyersArm$Exchanges", name := "seekThird", desc := "(III)V" } : Jvm.MethodName)) ∈ gtb := gtb_of (tb3 _ (List.mem_of_getElem? (i := 46) rfl)) rfl
theorem w3_47 : (Jvm.Cond.code ({ cls := "BuyersArm$Exchanges", name := "seekThird", desc := "(III)V" } : Jvm.MethodName) prog_2_method_4_code (5 : Nat) (Option.none : Option Jvm.ClassFile.FieldType)) ∈ gtb := gtb_of (tb3 _ (List.mem_of_getElem? (i := 47) rfl)) rfl
theorem w3_48 : (Jvm.Cond.constantLong "BuyersArm" (201 : Nat) (-9 : Int64)) ∈ gtb := gtb_of (tb3 _ (List.mem_of_getElem? (i := 48) rfl)) rfl
theorem w3_49 : (Jvm.Cond.methodLink "BuyersArmLaw" (95 : Nat) ({ cls := "BuyersArm", name := "ringAt", desc := "(II)I" } : Jvm.MethodName)) ∈ gtb := gtb_of (tb3 _ (List.mem_of_getElem? (i := 49) rfl)) rfl
theorem w3_50 : (Jvm.Cond.instanceMethod ({ cls := "BuyersArm", name := "ringAt", desc := "(II)I" } : Jvm.MethodName)) ∈ gtb := gtb_of (tb3 _ (List.mem_of_getElem? (i := 50) rfl)) rfl
theorem w3_51 : (Jvm.Cond.selects "BuyersArm" ({ cls := "BuyersArm", name := "ringAt", desc := "(II)I" } : Jvm.MethodName) ({ cls := "BuyersArm", name := "ringAt", desc := "(II)I" } : Jvm.MethodName)) ∈ gtb := gtb_of (tb3 _ (List.mem_of_getElem? (i := 51) rfl)) rfl
theorem w3_52 : (Jvm.Cond.code ({ cls := "BuyersArm", name := "ringAt", desc := "(II)I" } : Jvm.MethodName) prog_1_method_20_code (3 : Nat) (Option.some Jvm.ClassFile.FieldType.int)) ∈ gtb := gtb_of (tb3 _ (List.mem_of_getElem? (i := 52) rfl)) rfl
theorem w3_53 : (Jvm.Cond.methodLink "BuyersArmLaw" (99 : Nat) ({ cls := "BuyersArm", name := "come", desc := "(II)I" } : Jvm.MethodName)) ∈ gtb := gtb_of (tb3 _ (List.mem_of_getElem? (i := 53) rfl)) rfl
theorem w3_54 : (Jvm.Cond.instanceMethod ({ cls := "BuyersArm", name := "come", desc := "(II)I" } : Jvm.MethodName)) ∈ gtb := gtb_of (tb3 _ (List.mem_of_getElem? (i := 54) rfl)) rfl
theorem w3_55 : (Jvm.Cond.selects "BuyersArm" ({ cls := "BuyersArm", name := "come", desc := "(II)I" } : Jvm.MethodName) ({ cls := "BuyersArm", name := "come", desc := "(II)I" } : Jvm.MethodName)) ∈ gtb := gtb_of (tb3 _ (List.mem_of_getElem? (i := 55) rfl)) rfl
theorem w3_56 : (Jvm.Cond.code ({ cls := "BuyersArm", name := "come", desc := "(II)I" } : Jvm.MethodName) prog_1_method_21_code (4 : Nat) (Option.some Jvm.ClassFile.FieldType.int)) ∈ gtb := gtb_of (tb3 _ (List.mem_of_getElem? (i := 56) rfl)) rfl
theorem w3_57 : (Jvm.Cond.methodLink "BuyersArmLaw" (103 : Nat) ({ cls := "BuyersArm", name := "earned", desc := "(III)I" } : Jvm.MethodName)) ∈ gtb := gtb_of (tb3 _ (List.mem_of_getElem? (i := 57) rfl)) rfl
theorem w3_58 : (Jvm.Cond.instanceMethod ({ cls := "BuyersArm", name := "earned", desc := "(III)I" } : Jvm.MethodName)) ∈ gtb := gtb_of (tb3 _ (List.mem_of_getElem? (i := 58) rfl)) rfl
theorem w3_59 : (Jvm.Cond.selects "BuyersArm" ({ cls := "BuyersArm", name := "earned", desc := "(III)I" } : Jvm.MethodName) ({ cls := "BuyersArm", name := "earned", desc := "(III)I" } : Jvm.MethodName)) ∈ gtb := gtb_of (tb3 _ (List.mem_of_getElem? (i := 59) rfl)) rfl
theorem w3_60 : (Jvm.Cond.code ({ cls := "BuyersArm", name := "earned", desc := "(III)I" } : Jvm.MethodName) prog_1_method_22_code (4 : Nat) (Option.some Jvm.ClassFile.FieldType.int)) ∈ gtb := gtb_of (tb3 _ (List.mem_of_getElem? (i := 60) rfl)) rfl
theorem w3_61 : (Jvm.Cond.methodLink "BuyersArm" (213 : Nat) ({ cls := "BuyersArm", name := "mayValue", desc := "(II)Z" } : Jvm.MethodName)) ∈ gtb := gtb_of (tb3 _ (List.mem_of_getElem? (i := 61) rfl)) rfl
theorem w3_62 : (Jvm.Cond.static ({ cls := "BuyersArm", name := "mayValue", desc := "(II)Z" } : Jvm.MethodName)) ∈ gtb := gtb_of (tb3 _ (List.mem_of_getElem? (i := 62) rfl)) rfl
theorem w3_63 : (Jvm.Cond.code ({ cls := "BuyersArm", name := "mayValue", desc := "(II)Z" } : Jvm.MethodName) prog_1_method_37_code (2 : Nat) (Option.some Jvm.ClassFile.FieldType.boolean)) ∈ gtb := gtb_of (tb3 _ (List.mem_of_getElem? (i := 63) rfl)) rfl
theorem w3_64 : (Jvm.Cond.methodLink "BuyersArm" (216 : Nat) ({ cls := "BuyersArm", name := "broughtBy", desc := "(III)I" } : Jvm.MethodName)) ∈ gtb := gtb_of (tb3 _ (List.mem_of_getElem? (i := 64) rfl)) rfl
theorem w3_66 : (Jvm.Cond.instanceMethod ({ cls := "BuyersArm", name := "broughtBy", desc := "(III)I" } : Jvm.MethodName)) ∈ gtb := gtb_of (tb3 _ (List.mem_of_getElem? (i := 66) rfl)) rfl
theorem w3_67 : (Jvm.Cond.code ({ cls := "BuyersArm", name := "broughtBy", desc := "(III)I" } : Jvm.MethodName) prog_1_method_41_code (6 : Nat) (Option.some Jvm.ClassFile.FieldType.int)) ∈ gtb := gtb_of (tb3 _ (List.mem_of_getElem? (i := 67) rfl)) rfl
theorem w3_68 : (Jvm.Cond.constant "BuyersArm" (220 : Nat) (100000 : Int32)) ∈ gtb := gtb_of (tb3 _ (List.mem_of_getElem? (i := 68) rfl)) rfl
theorem w3_69 : (Jvm.Cond.methodLink "BuyersArmLaw" (107 : Nat) ({ cls := "BuyersArm", name := "ask", desc := "(II)I" } : Jvm.MethodName)) ∈ gtb := gtb_of (tb3 _ (List.mem_of_getElem? (i := 69) rfl)) rfl
theorem w3_70 : (Jvm.Cond.instanceMethod ({ cls := "BuyersArm", name := "ask", desc := "(II)I" } : Jvm.MethodName)) ∈ gtb := gtb_of (tb3 _ (List.mem_of_getElem? (i := 70) rfl)) rfl
theorem w3_71 : (Jvm.Cond.selects "BuyersArm" ({ cls := "BuyersArm", name := "ask", desc := "(II)I" } : Jvm.MethodName) ({ cls := "BuyersArm", name := "ask", desc := "(II)I" } : Jvm.MethodName)) ∈ gtb := gtb_of (tb3 _ (List.mem_of_getElem? (i := 71) rfl)) rfl
theorem w3_72 : (Jvm.Cond.code ({ cls := "BuyersArm", name := "ask", desc := "(II)I" } : Jvm.MethodName) prog_1_method_23_code (7 : Nat) (Option.some Jvm.ClassFile.FieldType.int)) ∈ gtb := gtb_of (tb3 _ (List.mem_of_getElem? (i := 72) rfl)) rfl
theorem w3_73 : (Jvm.Cond.methodLink "BuyersArmLaw" (111 : Nat) ({ cls := "BuyersArm", name := "keeper", desc := "(IZ)I" } : Jvm.MethodName)) ∈ gtb := gtb_of (tb3 _ (List.mem_of_getElem? (i := 73) rfl)) rfl
theorem w3_74 : (Jvm.Cond.instanceMethod ({ cls := "BuyersArm", name := "keeper", desc := "(IZ)I" } : Jvm.MethodName)) ∈ gtb := gtb_of (tb3 _ (List.mem_of_getElem? (i := 74) rfl)) rfl
theorem w3_75 : (Jvm.Cond.selects "BuyersArm" ({ cls := "BuyersArm", name := "keeper", desc := "(IZ)I" } : Jvm.MethodName) ({ cls := "BuyersArm", name := "keeper", desc := "(IZ)I" } : Jvm.MethodName)) ∈ gtb := gtb_of (tb3 _ (List.mem_of_getElem? (i := 75) rfl)) rfl
theorem w3_76 : (Jvm.Cond.code ({ cls := "BuyersArm", name := "keeper", desc := "(IZ)I" } : Jvm.MethodName) prog_1_method_24_code (3 : Nat) (Option.some Jvm.ClassFile.FieldType.int)) ∈ gtb := gtb_of (tb3 _ (List.mem_of_getElem? (i := 76) rfl)) rfl
theorem w3_77 : (Jvm.Cond.methodLink "BuyersArmLaw" (116 : Nat) ({ cls := "BuyersArm", name := "losers", desc := "(I)I" } : Jvm.MethodName)) ∈ gtb := gtb_of (tb3 _ (List.mem_of_getElem? (i := 77) rfl)) rfl
theorem w3_78 : (Jvm.Cond.instanceMethod ({ cls := "BuyersArm", name := "losers", desc := "(I)I" } : Jvm.MethodName)) ∈ gtb := gtb_of (tb3 _ (List.mem_of_getElem? (i := 78) rfl)) rfl
theorem w3_79 : (Jvm.Cond.selects "BuyersArm" ({ cls := "BuyersArm", name := "losers", desc := "(I)I" } : Jvm.MethodName) ({ cls := "BuyersArm", name := "losers", desc := "(I)I" } : Jvm.MethodName)) ∈ gtb := gtb_of (tb3 _ (List.mem_of_getElem? (i := 79) rfl)) rfl
theorem w3_80 : (Jvm.Cond.code ({ cls := "BuyersArm", name := "losers", desc := "(I)I" } : Jvm.MethodName) prog_1_method_25_code (2 : Nat) (Option.some Jvm.ClassFile.FieldType.int)) ∈ gtb := gtb_of (tb3 _ (List.mem_of_getElem? (i := 80) rfl)) rfl
theorem w3_81 : (Jvm.Cond.methodLink "BuyersArm" (224 : Nat) ({ cls := "BuyersArm", name := "losersBy", desc := "(I)I" } : Jvm.MethodName)) ∈ gtb := gtb_of (tb3 _ (List.mem_of_getElem? (i := 81) rfl)) rfl
theorem w3_83 : (Jvm.Cond.instanceMethod ({ cls := "BuyersArm", name := "losersBy", desc := "(I)I" } : Jvm.MethodName)) ∈ gtb := gtb_of (tb3 _ (List.mem_of_getElem? (i := 83) rfl)) rfl
theorem w3_84 : (Jvm.Cond.code ({ cls := "BuyersArm", name := "losersBy", desc := "(I)I" } : Jvm.MethodName) prog_1_method_42_code (5 : Nat) (Option.some Jvm.ClassFile.FieldType.int)) ∈ gtb := gtb_of (tb3 _ (List.mem_of_getElem? (i := 84) rfl)) rfl
theorem w3_85 : (Jvm.Cond.methodLink "BuyersArmLaw" (120 : Nat) ({ cls := "BuyersArm", name := "fairest", desc := "()I" } : Jvm.MethodName)) ∈ gtb := gtb_of (tb3 _ (List.mem_of_getElem? (i := 85) rfl)) rfl
theorem w3_86 : (Jvm.Cond.instanceMethod ({ cls := "BuyersArm", name := "fairest", desc := "()I" } : Jvm.MethodName)) ∈ gtb := gtb_of (tb3 _ (List.mem_of_getElem? (i := 86) rfl)) rfl
theorem w3_87 : (Jvm.Cond.selects "BuyersArm" ({ cls := "BuyersArm", name := "fairest", desc := "()I" } : Jvm.MethodName) ({ cls := "BuyersArm", name := "fairest", desc := "()I" } : Jvm.MethodName)) ∈ gtb := gtb_of (tb3 _ (List.mem_of_getElem? (i := 87) rfl)) rfl
theorem w3_88 : (Jvm.Cond.code ({ cls := "BuyersArm", name := "fairest", desc := "()I" } : Jvm.MethodName) prog_1_method_26_code (5 : Nat) (Option.some Jvm.ClassFile.FieldType.int)) ∈ gtb := gtb_of (tb3 _ (List.mem_of_getElem? (i := 88) rfl)) rfl
theorem w3_89 : (Jvm.Cond.methodLink "BuyersArmLaw" (124 : Nat) ({ cls := "BuyersArm", name := "cut", desc := "(IIZ)I" } : Jvm.MethodName)) ∈ gtb := gtb_of (tb3 _ (List.mem_of_getElem? (i := 89) rfl)) rfl
theorem w3_90 : (Jvm.Cond.instanceMethod ({ cls := "BuyersArm", name := "cut", desc := "(IIZ)I" } : Jvm.MethodName)) ∈ gtb := gtb_of (tb3 _ (List.mem_of_getElem? (i := 90) rfl)) rfl
theorem w3_91 : (Jvm.Cond.selects "BuyersArm" ({ cls := "BuyersArm", name := "cut", desc := "(IIZ)I" } : Jvm.MethodName) ({ cls := "BuyersArm", name := "cut", desc := "(IIZ)I" } : Jvm.MethodName)) ∈ gtb := gtb_of (tb3 _ (List.mem_of_getElem? (i := 91) rfl)) rfl
theorem w3_92 : (Jvm.Cond.code ({ cls := "BuyersArm", name := "cut", desc := "(IIZ)I" } : Jvm.MethodName) prog_1_method_27_code (4 : Nat) (Option.some Jvm.ClassFile.FieldType.int)) ∈ gtb := gtb_of (tb3 _ (List.mem_of_getElem? (i := 92) rfl)) rfl
theorem w3_93 : (Jvm.Cond.methodLink "BuyersArm" (227 : Nat) ({ cls := "BuyersArm$Piece", name := "reckon", desc := "(II[I)V" } : Jvm.MethodName)) ∈ gtb := gtb_of (tb3 _ (List.mem_of_getElem? (i := 93) rfl)) rfl
theorem w3_94 : (Jvm.Cond.instanceMethod ({ cls := "BuyersArm$Piece", name := "reckon", desc := "(II[I)V" } : Jvm.MethodName)) ∈ gtb := gtb_of (tb3 _ (List.mem_of_getElem? (i := 94) rfl)) rfl
theorem w3_95 : (Jvm.Cond.selects "BuyersArm$Piece" ({ cls := "BuyersArm$Piece", name := "reckon", desc := "(II[I)V" } : Jvm.MethodName) ({ cls := "BuyersArm$Piece", name := "reckon", desc := "(II[I)V" } : Jvm.MethodName)) ∈ gtb := gtb_of (tb3 _ (List.mem_of_getElem? (i := 95) rfl)) rfl
theorem w3_96 : (Jvm.Cond.code ({ cls := "BuyersArm$Piece", name := "reckon", desc := "(II[I)V" } : Jvm.MethodName) prog_4_method_2_code (6 : Nat) (Option.none : Option Jvm.ClassFile.FieldType)) ∈ gtb := gtb_of (tb3 _ (List.mem_of_getElem? (i := 96) rfl)) rfl
theorem w3_97 : (Jvm.Cond.methodLink "BuyersArm$Piece" (15 : Nat) ({ cls := "BuyersArm$Piece", name := "fewestTo", desc := "(II[I)I" } : Jvm.MethodName)) ∈ gtb := gtb_of (tb3 _ (List.mem_of_getElem? (i := 97) rfl)) rfl
theorem w3_99 : (Jvm.Cond.instanceMethod ({ cls := "BuyersArm$Piece", name := "fewestTo", desc := "(II[I)I" } : Jvm.MethodName)) ∈ gtb := gtb_of (tb3 _ (List.mem_of_getElem? (i := 99) rfl)) rfl
theorem w3_100 : (Jvm.Cond.code ({ cls := "BuyersArm$Piece", name := "fewestTo", desc := "(II[I)I" } : Jvm.MethodName) prog_4_method_3_code (6 : Nat) (Option.some Jvm.ClassFile.FieldType.int)) ∈ gtb := gtb_of (tb3 _ (List.mem_of_getElem? (i := 100) rfl)) rfl
theorem w3_101 : (Jvm.Cond.constant "BuyersArm$Piece" (19 : Nat) (1000000000 : Int32)) ∈ gtb := gtb_of (tb3 _ (List.mem_of_getElem? (i := 101) rfl)) rfl
theorem w3_102 : (Jvm.Cond.methodLink "BuyersArm$Piece" (27 : Nat) ({ cls := "java/lang/Math", name := "min", desc := "(II)I" } : Jvm.MethodName)) ∈ gtb := gtb_of (tb3 _ (List.mem_of_getElem? (i := 102) rfl)) rfl
theorem w3_103 : (Jvm.Cond.methodLink "BuyersArmLaw" (128 : Nat) ({ cls := "BuyersArm", name := "when", desc := "(IIII)I" } : Jvm.MethodName)) ∈ gtb := gtb_of (tb3 _ (List.mem_of_getElem? (i := 103) rfl)) rfl
theorem w3_104 : (Jvm.Cond.instanceMethod ({ cls := "BuyersArm", name := "when", desc := "(IIII)I" } : Jvm.MethodName)) ∈ gtb := gtb_of (tb3 _ (List.mem_of_getElem? (i := 104) rfl)) rfl
theorem w3_105 : (Jvm.Cond.selects "BuyersArm" ({ cls := "BuyersArm", name := "when", desc := "(IIII)I" } : Jvm.MethodName) ({ cls := "BuyersArm", name := "when", desc := "(IIII)I" } : Jvm.MethodName)) ∈ gtb := gtb_of (tb3 _ (List.mem_of_getElem? (i := 105) rfl)) rfl
theorem w3_106 : (Jvm.Cond.code ({ cls := "BuyersArm", name := "when", desc := "(IIII)I" } : Jvm.MethodName) prog_1_method_28_code (11 : Nat) (Option.some Jvm.ClassFile.FieldType.int)) ∈ gtb := gtb_of (tb3 _ (List.mem_of_getElem? (i := 106) rfl)) rfl
theorem w3_107 : (Jvm.Cond.methodLink "BuyersArm" (236 : Nat) ({ cls := "java/lang/Math", name := "min", desc := "(II)I" } : Jvm.MethodName)) ∈ gtb := gtb_of (tb3 _ (List.mem_of_getElem? (i := 107) rfl)) rfl
theorem w3_108 : (Jvm.Cond.methodLink "BuyersArmLaw" (133 : Nat) ({ cls := "BuyersArm", name := "held", desc := "(IIIII)I" } : Jvm.MethodName)) ∈ gtb := gtb_of (tb3 _ (List.mem_of_getElem? (i := 108) rfl)) rfl
theorem w3_109 : (Jvm.Cond.instanceMethod ({ cls := "BuyersArm", name := "held", desc := "(IIIII)I" } : Jvm.MethodName)) ∈ gtb := gtb_of (tb3 _ (List.mem_of_getElem? (i := 109) rfl)) rfl
theorem w3_110 : (Jvm.Cond.selects "BuyersArm" ({ cls := "BuyersArm", name := "held", desc := "(IIIII)I" } : Jvm.MethodName) ({ cls := "BuyersArm", name := "held", desc := "(IIIII)I" } : Jvm.MethodName)) ∈ gtb := gtb_of (tb3 _ (List.mem_of_getElem? (i := 110) rfl)) rfl
theorem w3_111 : (Jvm.Cond.code ({ cls := "BuyersArm", name := "held", desc := "(IIIII)I" } : Jvm.MethodName) prog_1_method_29_code (6 : Nat) (Option.some Jvm.ClassFile.FieldType.int)) ∈ gtb := gtb_of (tb3 _ (List.mem_of_getElem? (i := 111) rfl)) rfl
theorem w3_112 : (Jvm.Cond.methodLink "BuyersArm" (245 : Nat) ({ cls := "BuyersArm$Hidden", name := "hold", desc := "(IIIII)V" } : Jvm.MethodName)) ∈ gtb := gtb_of (tb3 _ (List.mem_of_getElem? (i := 112) rfl)) rfl
theorem w3_113 : (Jvm.Cond.instanceMethod ({ cls := "BuyersArm$Hidden", name := "hold", desc := "(IIIII)V" } : Jvm.MethodName)) ∈ gtb := gtb_of (tb3 _ (List.mem_of_getElem? (i := 113) rfl)) rfl
theorem w3_114 : (Jvm.Cond.selects "BuyersArm$Hidden" ({ cls := "BuyersArm$Hidden", name := "hold", desc := "(IIIII)V" } : Jvm.MethodName) ({ cls := "BuyersArm$Hidden", name := "hold", desc := "(IIIII)V" } : Jvm.MethodName)) ∈ gtb := gtb_of (tb3 _ (List.mem_of_getElem? (i := 114) rfl)) rfl
theorem w3_115 : (Jvm.Cond.code ({ cls := "BuyersArm$Hidden", name := "hold", desc := "(IIIII)V" } : Jvm.MethodName) prog_3_method_3_code (9 : Nat) (Option.none : Option Jvm.ClassFile.FieldType)) ∈ gtb := gtb_of (tb3 _ (List.mem_of_getElem? (i := 115) rfl)) rfl
theorem w3_116 : (Jvm.Cond.methodLink "BuyersArm$Hidden" (28 : Nat) ({ cls := "java/lang/Integer", name := "compare", desc := "(II)I" } : Jvm.MethodName)) ∈ gtb := gtb_of (tb3 _ (List.mem_of_getElem? (i := 116) rfl)) rfl
theorem w3_117 : (Jvm.Cond.static ({ cls := "java/lang/Integer", name := "compare", desc := "(II)I" } : Jvm.MethodName)) ∈ gtb := gtb_of (tb3 _ (List.mem_of_getElem? (i := 117) rfl)) rfl
theorem w3_118 : (Jvm.Cond.code ({ cls := "java/lang/Integer", name := "compare", desc := "(II)I" } : Jvm.MethodName) prog_12_method_40_code (2 : Nat) (Option.some Jvm.ClassFile.FieldType.int)) ∈ gtb := gtb_of (tb3 _ (List.mem_of_getElem? (i := 118) rfl)) rfl
theorem w3_119 : (Jvm.Cond.methodLink "BuyersArmLaw" (137 : Nat) ({ cls := "BuyersArm", name := "unheld", desc := "()I" } : Jvm.MethodName)) ∈ gtb := gtb_of (tb3 _ (List.mem_of_getElem? (i := 119) rfl)) rfl
theorem w3_120 : (Jvm.Cond.instanceMethod ({ cls := "BuyersArm", name := "unheld", desc := "()I" } : Jvm.MethodName)) ∈ gtb := gtb_of (tb3 _ (List.mem_of_getElem? (i := 120) rfl)) rfl
theorem w3_121 : (Jvm.Cond.selects "BuyersArm" ({ cls := "BuyersArm", name := "unheld", desc := "()I" } : Jvm.MethodName) ({ cls := "BuyersArm", name := "unheld", desc := "()I" } : Jvm.MethodName)) ∈ gtb := gtb_of (tb3 _ (List.mem_of_getElem? (i := 121) rfl)) rfl
theorem w3_122 : (Jvm.Cond.code ({ cls := "BuyersArm", name := "unheld", desc := "()I" } : Jvm.MethodName) prog_1_method_30_code (2 : Nat) (Option.some Jvm.ClassFile.FieldType.int)) ∈ gtb := gtb_of (tb3 _ (List.mem_of_getElem? (i := 122) rfl)) rfl
theorem w3_123 : (Jvm.Cond.methodLink "BuyersArm" (248 : Nat) ({ cls := "BuyersArm$Hidden", name := "forget", desc := "()V" } : Jvm.MethodName)) ∈ gtb := gtb_of (tb3 _ (List.mem_of_getElem? (i := 123) rfl)) rfl
theorem w3_124 : (Jvm.Cond.instanceMethod ({ cls := "BuyersArm$Hidden", name := "forget", desc := "()V" } : Jvm.MethodName)) ∈ gtb := gtb_of (tb3 _ (List.mem_of_getElem? (i := 124) rfl)) rfl
theorem w3_125 : (Jvm.Cond.selects "BuyersArm$Hidden" ({ cls := "BuyersArm$Hidden", name := "forget", desc := "()V" } : Jvm.MethodName) ({ cls := "BuyersArm$Hidden", name := "forget", desc := "()V" } : Jvm.MethodName)) ∈ gtb := gtb_of (tb3 _ (List.mem_of_getElem? (i := 125) rfl)) rfl
theorem w3_126 : (Jvm.Cond.code ({ cls := "BuyersArm$Hidden", name := "forget", desc := "()V" } : Jvm.MethodName) prog_3_method_2_code (1 : Nat) (Option.none : Option Jvm.ClassFile.FieldType)) ∈ gtb := gtb_of (tb3 _ (List.mem_of_getElem? (i := 126) rfl)) rfl
theorem w3_127 : (Jvm.Cond.methodLink "BuyersArm$Hidden" (22 : Nat) ({ cls := "java/util/Arrays", name := "fill", desc := "([II)V" } : Jvm.MethodName)) ∈ gtb := gtb_of (tb3 _ (List.mem_of_getElem? (i := 127) rfl)) rfl
theorem w3_128 : (Jvm.Cond.methodLink "BuyersArmLaw" (141 : Nat) ({ cls := "BuyersArm", name := "mayBe", desc := "()I" } : Jvm.MethodName)) ∈ gtb := gtb_of (tb3 _ (List.mem_of_getElem? (i := 128) rfl)) rfl
theorem w3_129 : (Jvm.Cond.instanceMethod ({ cls := "BuyersArm", name := "mayBe", desc := "()I" } : Jvm.MethodName)) ∈ gtb := gtb_of (tb3 _ (List.mem_of_getElem? (i := 129) rfl)) rfl
theorem w3_130 : (Jvm.Cond.selects "BuyersArm" ({ cls := "BuyersArm", name := "mayBe", desc := "()I" } : Jvm.MethodName) ({ cls := "BuyersArm", name := "mayBe", desc := "()I" } : Jvm.MethodName)) ∈ gtb := gtb_of (tb3 _ (List.mem_of_getElem? (i := 130) rfl)) rfl
theorem w3_131 : (Jvm.Cond.code ({ cls := "BuyersArm", name := "mayBe", desc := "()I" } : Jvm.MethodName) prog_1_method_31_code (1 : Nat) (Option.some Jvm.ClassFile.FieldType.int)) ∈ gtb := gtb_of (tb3 _ (List.mem_of_getElem? (i := 131) rfl)) rfl
theorem w3_132 : (Jvm.Cond.methodLink "BuyersArm" (251 : Nat) ({ cls := "BuyersArm$Hidden", name := "reckon", desc := "()V" } : Jvm.MethodName)) ∈ gtb := gtb_of (tb3 _ (List.mem_of_getElem? (i := 132) rfl)) rfl
theorem w3_133 : (Jvm.Cond.instanceMethod ({ cls := "BuyersArm$Hidden", name := "reckon", desc := "()V" } : Jvm.MethodName)) ∈ gtb := gtb_of (tb3 _ (List.mem_of_getElem? (i := 133) rfl)) rfl
theorem w3_134 : (Jvm.Cond.selects "BuyersArm$Hidden" ({ cls := "BuyersArm$Hidden", name := "reckon", desc := "()V" } : Jvm.MethodName) ({ cls := "BuyersArm$Hidden", name := "reckon", desc := "()V" } : Jvm.MethodName)) ∈ gtb := gtb_of (tb3 _ (List.mem_of_getElem? (i := 134) rfl)) rfl
theorem w3_135 : (Jvm.Cond.code ({ cls := "BuyersArm$Hidden", name := "reckon", desc := "()V" } : Jvm.MethodName) prog_3_method_4_code (4 : Nat) (Option.none : Option Jvm.ClassFile.FieldType)) ∈ gtb := gtb_of (tb3 _ (List.mem_of_getElem? (i := 135) rfl)) rfl
theorem w3_136 : (Jvm.Cond.constant "BuyersArm$Hidden" (37 : Nat) (1048575 : Int32)) ∈ gtb := gtb_of (tb3 _ (List.mem_of_getElem? (i := 136) rfl)) rfl
theorem w3_137 : (Jvm.Cond.methodLink "BuyersArm$Hidden" (38 : Nat) ({ cls := "java/lang/Integer", name := "bitCount", desc := "(I)I" } : Jvm.MethodName)) ∈ gtb := gtb_of (tb3 _ (List.mem_of_getElem? (i := 137) rfl)) rfl
theorem w3_138 : (Jvm.Cond.methodLink "BuyersArmLaw" (145 : Nat) ({ cls := "BuyersArm", name := "arm", desc := "(IZ)I" } : Jvm.MethodName)) ∈ gtb := gtb_of (tb3 _ (List.mem_of_getElem? (i := 138) rfl)) rfl
theorem w3_139 : (Jvm.Cond.instanceMethod ({ cls := "BuyersArm", name := "arm", desc := "(IZ)I" } : Jvm.MethodName)) ∈ gtb := gtb_of (tb3 _ (List.mem_of_getElem? (i := 139) rfl)) rfl
theorem w3_140 : (Jvm.Cond.selects "BuyersArm" ({ cls := "BuyersArm", name := "arm", desc := "(IZ)I" } : Jvm.MethodName) ({ cls := "BuyersArm", name := "arm", desc := "(IZ)I" } : Jvm.MethodName)) ∈ gtb := gtb_of (tb3 _ (List.mem_of_getElem? (i := 140) rfl)) rfl
theorem w3_141 : (Jvm.Cond.code ({ cls := "BuyersArm", name := "arm", desc := "(IZ)I" } : Jvm.MethodName) prog_1_method_32_code (3 : Nat) (Option.some Jvm.ClassFile.FieldType.int)) ∈ gtb := gtb_of (tb3 _ (List.mem_of_getElem? (i := 141) rfl)) rfl
theorem w3_142 : (Jvm.Cond.methodLink "BuyersArm" (256 : Nat) ({ cls := "BuyersArm$Hidden", name := "greatestOf", desc := "(I)I" } : Jvm.MethodName)) ∈ gtb := gtb_of (tb3 _ (List.mem_of_getElem? (i := 142) rfl)) rfl
theorem w3_143 : (Jvm.Cond.instanceMethod ({ cls := "BuyersArm$Hidden", name := "greatestOf", desc := "(I)I" } : Jvm.MethodName)) ∈ gtb := gtb_of (tb3 _ (List.mem_of_getElem? (i := 143) rfl)) rfl
theorem w3_144 : (Jvm.Cond.selects "BuyersArm$Hidden" ({ cls := "BuyersArm$Hidden", name := "greatestOf", desc := "(I)I" } : Jvm.MethodName) ({ cls := "BuyersArm$Hidden", name := "greatestOf", desc := "(I)I" } : Jvm.MethodName)) ∈ gtb := gtb_of (tb3 _ (List.mem_of_getElem? (i := 144) rfl)) rfl
theorem w3_145 : (Jvm.Cond.code ({ cls := "BuyersArm$Hidden", name := "greatestOf", desc := "(I)I" } : Jvm.MethodName) prog_3_method_6_code (3 : Nat) (Option.some Jvm.ClassFile.FieldType.int)) ∈ gtb := gtb_of (tb3 _ (List.mem_of_getElem? (i := 145) rfl)) rfl
theorem w3_146 : (Jvm.Cond.methodLink "BuyersArm" (259 : Nat) ({ cls := "BuyersArm$Hidden", name := "leastOf", desc := "(I)I" } : Jvm.MethodName)) ∈ gtb := gtb_of (tb3 _ (List.mem_of_getElem? (i := 146) rfl)) rfl
theorem w3_147 : (Jvm.Cond.instanceMethod ({ cls := "BuyersArm$Hidden", name := "leastOf", desc := "(I)I" } : Jvm.MethodName)) ∈ gtb := gtb_of (tb3 _ (List.mem_of_getElem? (i := 147) rfl)) rfl
theorem w3_148 : (Jvm.Cond.selects "BuyersArm$Hidden" ({ cls := "BuyersArm$Hidden", name := "leastOf", desc := "(I)I" } : Jvm.MethodName) ({ cls := "BuyersArm$Hidden", name := "leastOf", desc := "(I)I" } : Jvm.MethodName)) ∈ gtb := gtb_of (tb3 _ (List.mem_of_getElem? (i := 148) rfl)) rfl
theorem w3_149 : (Jvm.Cond.code ({ cls := "BuyersArm$Hidden", name := "leastOf", desc := "(I)I" } : Jvm.MethodName) prog_3_method_5_code (3 : Nat) (Option.some Jvm.ClassFile.FieldType.int)) ∈ gtb := gtb_of (tb3 _ (List.mem_of_getElem? (i := 149) rfl)) rfl
theorem w3_150 : (Jvm.Cond.methodLink "BuyersArmLaw" (149 : Nat) ({ cls := "BuyersArm", name := "keep", desc := "(I)I" } : Jvm.MethodName)) ∈ gtb := gtb_of (tb3 _ (List.mem_of_getElem? (i := 150) rfl)) rfl
theorem w3_151 : (Jvm.Cond.instanceMethod ({ cls := "BuyersArm", name := "keep", desc := "(I)I" } : Jvm.MethodName)) ∈ gtb := gtb_of (tb3 _ (List.mem_of_getElem? (i := 151) rfl)) rfl
theorem w3_152 : (Jvm.Cond.selects "BuyersArm" ({ cls := "BuyersArm", name := "keep", desc := "(I)I" } : Jvm.MethodName) ({ cls := "BuyersArm", name := "keep", desc := "(I)I" } : Jvm.MethodName)) ∈ gtb := gtb_of (tb3 _ (List.mem_of_getElem? (i := 152) rfl)) rfl
theorem w3_153 : (Jvm.Cond.code ({ cls := "BuyersArm", name := "keep", desc := "(I)I" } : Jvm.MethodName) prog_1_method_33_code (2 : Nat) (Option.some Jvm.ClassFile.FieldType.int)) ∈ gtb := gtb_of (tb3 _ (List.mem_of_getElem? (i := 153) rfl)) rfl
theorem w3_154 : (Jvm.Cond.methodLink "BuyersArm" (262 : Nat) ({ cls := "BuyersArm$Stand", name := "takeFrom", desc := "(LBuyersArm$Stand;)V" } : Jvm.MethodName)) ∈ gtb := gtb_of (tb3 _ (List.mem_of_getElem? (i := 154) rfl)) rfl
theorem w3_155 : (Jvm.Cond.instanceMethod ({ cls := "BuyersArm$Stand", name := "takeFrom", desc := "(LBuyersArm$Stand;)V" } : Jvm.MethodName)) ∈ gtb := gtb_of (tb3 _ (List.mem_of_getElem? (i := 155) rfl)) rfl
theorem w3_156 : (Jvm.Cond.selects "BuyersArm$Stand" ({ cls := "BuyersArm$Stand", name := "takeFrom", desc := "(LBuyersArm$Stand;)V" } : Jvm.MethodName) ({ cls := "BuyersArm$Stand", name := "takeFrom", desc := "(LBuyersArm$Stand;)V" } : Jvm.MethodName)) ∈ gtb := gtb_of (tb3 _ (List.mem_of_getElem? (i := 156) rfl)) rfl
theorem w3_157 : (Jvm.Cond.code ({ cls := "BuyersArm$Stand", name := "takeFrom", desc := "(LBuyersArm$Stand;)V" } : Jvm.MethodName) prog_7_method_3_code (2 : Nat) (Option.none : Option Jvm.ClassFile.FieldType)) ∈ gtb := gtb_of (tb3 _ (List.mem_of_getElem? (i := 157) rfl)) rfl
theorem w3_158 : (Jvm.Cond.methodLink "BuyersArmLaw" (153 : Nat) ({ cls := "BuyersArm", name := "again", desc := "(I)I" } : Jvm.MethodName)) ∈ gtb := gtb_of (tb3 _ (List.mem_of_getElem? (i := 158) rfl)) rfl
theorem w3_159 : (Jvm.Cond.instanceMethod ({ cls := "BuyersArm", name := "again", desc := "(I)I" } : Jvm.MethodName)) ∈ gtb := gtb_of (tb3 _ (List.mem_of_getElem? (i := 159) rfl)) rfl
theorem w3_160 : (Jvm.Cond.selects "BuyersArm" ({ cls := "BuyersArm", name := "again", desc := "(I)I" } : Jvm.MethodName) ({ cls := "BuyersArm", name := "again", desc := "(I)I" } : Jvm.MethodName)) ∈ gtb := gtb_of (tb3 _ (List.mem_of_getElem? (i := 160) rfl)) rfl
theorem w3_161 : (Jvm.Cond.code ({ cls := "BuyersArm", name := "again", desc := "(I)I" } : Jvm.MethodName) prog_1_method_34_code (2 : Nat) (Option.some Jvm.ClassFile.FieldType.int)) ∈ gtb := gtb_of (tb3 _ (List.mem_of_getElem? (i := 161) rfl)) rfl
theorem w3_162 : (Jvm.Cond.methodLink "BuyersArmLaw" (157 : Nat) ({ cls := "BuyersArm", name := "count", desc := "(I)I" } : Jvm.MethodName)) ∈ gtb := gtb_of (tb3 _ (List.mem_of_getElem? (i := 162) rfl)) rfl
theorem w3_163 : (Jvm.Cond.instanceMethod ({ cls := "BuyersArm", name := "count", desc := "(I)I" } : Jvm.MethodName)) ∈ gtb := gtb_of (tb3 _ (List.mem_of_getElem? (i := 163) rfl)) rfl
theorem w3_164 : (Jvm.Cond.selects "BuyersArm" ({ cls := "BuyersArm", name := "count", desc := "(I)I" } : Jvm.MethodName) ({ cls := "BuyersArm", name := "count", desc := "(I)I" } : Jvm.MethodName)) ∈ gtb := gtb_of (tb3 _ (List.mem_of_getElem? (i := 164) rfl)) rfl
theorem w3_165 : (Jvm.Cond.code ({ cls := "BuyersArm", name := "count", desc := "(I)I" } : Jvm.MethodName) prog_1_method_35_code (2 : Nat) (Option.some Jvm.ClassFile.FieldType.int)) ∈ gtb := gtb_of (tb3 _ (List.mem_of_getElem? (i := 165) rfl)) rfl
theorem w3_166 : (Jvm.Cond.classLink "BuyersArmLaw" (10 : Nat) "BuyersArmModel") ∈ gtb := gtb_of (tb3 _ (List.mem_of_getElem? (i := 166) rfl)) rfl
theorem w3_167 : (Jvm.Cond.instantiable "BuyersArmModel" (50 : Nat)) ∈ gtb := gtb_of (tb3 _ (List.mem_of_getElem? (i := 167) rfl)) rfl
theorem w3_168 : (Jvm.Cond.methodLink "BuyersArmLaw" (12 : Nat) ({ cls := "BuyersArmModel", name := "<init>", desc := "()V" } : Jvm.MethodName)) ∈ gtb := gtb_of (tb3 _ (List.mem_of_getElem? (i := 168) rfl)) rfl
theorem w3_169 : (Jvm.Cond.instanceMethod ({ cls := "BuyersArmModel", name := "<init>", desc := "()V" } : Jvm.MethodName)) ∈ gtb := gtb_of (tb3 _ (List.mem_of_getElem? (i := 169) rfl)) rfl
theorem w3_170 : (Jvm.Cond.code ({ cls := "BuyersArmModel", name := "<init>", desc := "()V" } : Jvm.MethodName) prog_11_method_1_code (1 : Nat) (Option.none : Option Jvm.ClassFile.FieldType)) ∈ gtb := gtb_of (tb3 _ (List.mem_of_getElem? (i := 170) rfl)) rfl
theorem w3_171 : (Jvm.Cond.methodLink "BuyersArmModel" (1 : Nat) ({ cls := "java/lang/Object", name := "<init>", desc := "()V" } : Jvm.MethodName)) ∈ gtb := gtb_of (tb3 _ (List.mem_of_getElem? (i := 171) rfl)) rfl
theorem w3_172 : (Jvm.Cond.fieldLink "BuyersArmModel" (117 : Nat) "BuyersArmModel" "thrown" "I") ∈ gtb := gtb_of (tb3 _ (List.mem_of_getElem? (i := 172) rfl)) rfl
theorem w3_173 : (Jvm.Cond.fieldLink "BuyersArmModel" (7 : Nat) "BuyersArmModel" "text" "[I") ∈ gtb := gtb_of (tb3 _ (List.mem_of_getElem? (i := 173) rfl)) rfl
theorem w3_174 : (Jvm.Cond.fieldLink "BuyersArmModel" (132 : Nat) "BuyersArmModel" "textSize" "I") ∈ gtb := gtb_of (tb3 _ (List.mem_of_getElem? (i := 174) rfl)) rfl
theorem w3_175 : (Jvm.Cond.fieldLink "BuyersArmModel" (135 : Nat) "BuyersArmModel" "place" "I") ∈ gtb := gtb_of (tb3 _ (List.mem_of_getElem? (i := 175) rfl)) rfl
theorem w3_176 : (Jvm.Cond.fieldLink "BuyersArmModel" (120 : Nat) "BuyersArmModel" "people" "I") ∈ gtb := gtb_of (tb3 _ (List.mem_of_getElem? (i := 176) rfl)) rfl
theorem w3_177 : (Jvm.Cond.fieldLink "BuyersArmModel" (127 : Nat) "BuyersArmModel" "counters" "I") ∈ gtb := gtb_of (tb3 _ (List.mem_of_getElem? (i := 177) rfl)) rfl
theorem w3_178 : (Jvm.Cond.fieldLink "BuyersArmModel" (13 : Nat) "BuyersArmModel" "arm" "[I") ∈ gtb := gtb_of (tb3 _ (List.mem_of_getElem? (i := 178) rfl)) rfl
theorem w3_179 : (Jvm.Cond.fieldLink "BuyersArmModel" (16 : Nat) "BuyersArmModel" "fee" "[I") ∈ gtb := gtb_of (tb3 _ (List.mem_of_getElem? (i := 179) rfl)) rfl
theorem w3_180 : (Jvm.Cond.fieldLink "BuyersArmModel" (19 : Nat) "BuyersArmModel" "price" "[I") ∈ gtb := gtb_of (tb3 _ (List.mem_of_getElem? (i := 180) rfl)) rfl
theorem w3_181 : (Jvm.Cond.fieldLink "BuyersArmModel" (22 : Nat) "BuyersArmModel" "stock" "[I") ∈ gtb := gtb_of (tb3 _ (List.mem_of_getElem? (i := 181) rfl)) rfl
theorem w3_182 : (Jvm.Cond.fieldLink "BuyersArmModel" (25 : Nat) "BuyersArmModel" "barred" "[Z") ∈ gtb := gtb_of (tb3 _ (List.mem_of_getElem? (i := 182) rfl)) rfl
theorem w3_183 : (Jvm.Cond.fieldLink "BuyersArmModel" (29 : Nat) "BuyersArmModel" "comers" "[I") ∈ gtb := gtb_of (tb3 _ (List.mem_of_getElem? (i := 183) rfl)) rfl
theorem w3_184 : (Jvm.Cond.fieldLink "BuyersArmModel" (32 : Nat) "BuyersArmModel" "keeps" "[Z") ∈ gtb := gtb_of (tb3 _ (List.mem_of_getElem? (i := 184) rfl)) rfl
theorem w3_185 : (Jvm.Cond.fieldLink "BuyersArmModel" (35 : Nat) "BuyersArmModel" "common" "I") ∈ gtb := gtb_of (tb3 _ (List.mem_of_getElem? (i := 185) rfl)) rfl
theorem w3_186 : (Jvm.Cond.fieldLink "BuyersArmModel" (147 : Nat) "BuyersArmModel" "readPeople" "I") ∈ gtb := gtb_of (tb3 _ (List.mem_of_getElem? (i := 186) rfl)) rfl
theorem w3_187 : (Jvm.Cond.fieldLink "BuyersArmModel" (150 : Nat) "BuyersArmModel" "readCounters" "I") ∈ gtb := gtb_of (tb3 _ (List.mem_of_getElem? (i := 187) rfl)) rfl
theorem w3_188 : (Jvm.Cond.fieldLink "BuyersArmModel" (39 : Nat) "BuyersArmModel" "readArm" "[I") ∈ gtb := gtb_of (tb3 _ (List.mem_of_getElem? (i := 188) rfl)) rfl
theorem w3_189 : (Jvm.Cond.fieldLink "BuyersArmModel" (42 : Nat) "BuyersArmModel" "readFee" "[I") ∈ gtb := gtb_of (tb3 _ (List.mem_of_getElem? (i := 189) rfl)) rfl
theorem w3_190 : (Jvm.Cond.fieldLink "BuyersArmModel" (45 : Nat) "BuyersArmModel" "readPrice" "[I") ∈ gtb := gtb_of (tb3 _ (List.mem_of_getElem? (i := 190) rfl)) rfl
theorem w3_191 : (Jvm.Cond.fieldLink "BuyersArmModel" (48 : Nat) "BuyersArmModel" "readStock" "[I") ∈ gtb := gtb_of (tb3 _ (List.mem_of_getElem? (i := 191) rfl)) rfl
theorem w3_192 : (Jvm.Cond.fieldLink "BuyersArmModel" (51 : Nat) "BuyersArmModel" "readBarred" "[Z") ∈ gtb := gtb_of (tb3 _ (List.mem_of_getElem? (i := 192) rfl)) rfl
theorem w3_193 : (Jvm.Cond.fieldLink "BuyersArmModel" (177 : Nat) "BuyersArmModel" "sales" "I") ∈ gtb := gtb_of (tb3 _ (List.mem_of_getElem? (i := 193) rfl)) rfl
theorem w3_194 : (Jvm.Cond.fieldLink "BuyersArmModel" (54 : Nat) "BuyersArmModel" "whoBuys" "[I") ∈ gtb := gtb_of (tb3 _ (List.mem_of_getElem? (i := 194) rfl)) rfl
theorem w3_195 : (Jvm.Cond.fieldLink "BuyersArmModel" (57 : Nat) "BuyersArmModel" "where" "[I") ∈ gtb := gtb_of (tb3 _ (List.mem_of_getElem? (i := 195) rfl)) rfl
theorem w3_196 : (Jvm.Cond.fieldLink "BuyersArmModel" (60 : Nat) "BuyersArmModel" "ells" "[I") ∈ gtb := gtb_of (tb3 _ (List.mem_of_getElem? (i := 196) rfl)) rfl
theorem w3_197 : (Jvm.Cond.fieldLink "BuyersArmModel" (63 : Nat) "BuyersArmModel" "parts" "[I") ∈ gtb := gtb_of (tb3 _ (List.mem_of_getElem? (i := 197) rfl)) rfl
theorem w3_198 : (Jvm.Cond.fieldLink "BuyersArmModel" (224 : Nat) "BuyersArmModel" "changes" "I") ∈ gtb := gtb_of (tb3 _ (List.mem_of_getElem? (i := 198) rfl)) rfl
theorem w3_199 : (Jvm.Cond.fieldLink "BuyersArmModel" (66 : Nat) "BuyersArmModel" "from" "[I") ∈ gtb := gtb_of (tb3 _ (List.mem_of_getElem? (i := 199) rfl)) rfl
theorem w3_200 : (Jvm.Cond.fieldLink "BuyersArmModel" (69 : Nat) "BuyersArmModel" "to" "[I") ∈ gtb := gtb_of (tb3 _ (List.mem_of_getElem? (i := 200) rfl)) rfl
theorem w3_201 : (Jvm.Cond.fieldLink "BuyersArmModel" (72 : Nat) "BuyersArmModel" "gives" "[I") ∈ gtb := gtb_of (tb3 _ (List.mem_of_getElem? (i := 201) rfl)) rfl
theorem w3_202 : (Jvm.Cond.fieldLink "BuyersArmModel" (75 : Nat) "BuyersArmModel" "gets" "[I") ∈ gtb := gtb_of (tb3 _ (List.mem_of_getElem? (i := 202) rfl)) rfl
theorem w3_203 : (Jvm.Cond.fieldLink "BuyersArmModel" (78 : Nat) "BuyersArmModel" "armOf" "[I") ∈ gtb := gtb_of (tb3 _ (List.mem_of_getElem? (i := 203) rfl)) rfl
theorem w3_204 : (Jvm.Cond.fieldLink "BuyersArmModel" (254 : Nat) "BuyersArmModel" "heldMany" "I") ∈ gtb := gtb_of (tb3 _ (List.mem_of_getElem? (i := 204) rfl)) rfl
theorem w3_205 : (Jvm.Cond.fieldLink "BuyersArmModel" (81 : Nat) "BuyersArmModel" "heldOne" "[I") ∈ gtb := gtb_of (tb3 _ (List.mem_of_getElem? (i := 205) rfl)) rfl
theorem w3_206 : (Jvm.Cond.fieldLink "BuyersArmModel" (84 : Nat) "BuyersArmModel" "heldE" "[I") ∈ gtb := gtb_of (tb3 _ (List.mem_of_getElem? (i := 206) rfl)) rfl
theorem w3_207 : (Jvm.Cond.fieldLink "BuyersArmModel" (87 : Nat) "BuyersArmModel" "heldOther" "[I") ∈ gtb := gtb_of (tb3 _ (List.mem_of_getElem? (i := 207) rfl)) rfl
theorem w3_208 : (Jvm.Cond.fieldLink "BuyersArmModel" (90 : Nat) "BuyersArmModel" "heldF" "[I") ∈ gtb := gtb_of (tb3 _ (List.mem_of_getElem? (i := 208) rfl)) rfl
theorem w3_209 : (Jvm.Cond.fieldLink "BuyersArmModel" (93 : Nat) "BuyersArmModel" "heldSign" "[I") ∈ gtb := gtb_of (tb3 _ (List.mem_of_getElem? (i := 209) rfl)) rfl
theorem w3_210 : (Jvm.Cond.fieldLink "BuyersArmModel" (96 : Nat) "BuyersArmModel" "kept" "[I") ∈ gtb := gtb_of (tb3 _ (List.mem_of_getElem? (i := 210) rfl)) rfl
theorem w3_211 : (Jvm.Cond.fieldLink "BuyersArmModel" (99 : Nat) "BuyersArmModel" "isKept" "[Z") ∈ gtb := gtb_of (tb3 _ (List.mem_of_getElem? (i := 211) rfl)) rfl
theorem w3_212 : (Jvm.Cond.fieldLink "BuyersArmModel" (102 : Nat) "BuyersArmModel" "few" "[I") ∈ gtb := gtb_of (tb3 _ (List.mem_of_getElem? (i := 212) rfl)) rfl
theorem w3_213 : (Jvm.Cond.fieldLink "BuyersArmModel" (105 : Nat) "BuyersArmModel" "best" "[I") ∈ gtb := gtb_of (tb3 _ (List.mem_of_getElem? (i := 213) rfl)) rfl
theorem w3_214 : (Jvm.Cond.fieldLink "BuyersArmModel" (108 : Nat) "BuyersArmModel" "tried" "[I") ∈ gtb := gtb_of (tb3 _ (List.mem_of_getElem? (i := 214) rfl)) rfl
theorem w3_215 : (Jvm.Cond.fieldLink "BuyersArmModel" (111 : Nat) "BuyersArmModel" "ring" "[I") ∈ gtb := gtb_of (tb3 _ (List.mem_of_getElem? (i := 215) rfl)) rfl
theorem w3_216 : (Jvm.Cond.fieldLink "BuyersArmModel" (227 : Nat) "BuyersArmModel" "ringMany" "I") ∈ gtb := gtb_of (tb3 _ (List.mem_of_getElem? (i := 216) rfl)) rfl
theorem w3_217 : (Jvm.Cond.fieldLink "BuyersArmModel" (230 : Nat) "BuyersArmModel" "ringUp" "J") ∈ gtb := gtb_of (tb3 _ (List.mem_of_getElem? (i := 217) rfl)) rfl
theorem w3_218 : (Jvm.Cond.fieldLink "BuyersArmModel" (234 : Nat) "BuyersArmModel" "ringDown" "J") ∈ gtb := gtb_of (tb3 _ (List.mem_of_getElem? (i := 218) rfl)) rfl
theorem w3_219 : (Jvm.Cond.fieldLink "BuyersArmModel" (114 : Nat) "BuyersArmModel" "cuts" "[I") ∈ gtb := gtb_of (tb3 _ (List.mem_of_getElem? (i := 219) rfl)) rfl
theorem w3_220 : (Jvm.Cond.fieldLink "BuyersArmModel" (260 : Nat) "BuyersArmModel" "low" "I") ∈ gtb := gtb_of (tb3 _ (List.mem_of_getElem? (i := 220) rfl)) rfl
theorem w3_221 : (Jvm.Cond.fieldLink "BuyersArmModel" (263 : Nat) "BuyersArmModel" "high" "I") ∈ gtb := gtb_of (tb3 _ (List.mem_of_getElem? (i := 221) rfl)) rfl
theorem w3_222 : (Jvm.Cond.lays "BuyersArmModel" "BuyersArmModel" "thrown" "I") ∈ gtb := gtb_of (tb3 _ (List.mem_of_getElem? (i := 222) rfl)) rfl
theorem w3_224 : (Jvm.Cond.laysFinal "BuyersArmModel" "BuyersArmModel" "text" "[I") ∈ gtb := gtb_of (tb3 _ (List.mem_of_getElem? (i := 224) rfl)) rfl
theorem w3_226 : (Jvm.Cond.lays "BuyersArmModel" "BuyersArmModel" "textSize" "I") ∈ gtb := gtb_of (tb3 _ (List.mem_of_getElem? (i := 226) rfl)) rfl
theorem w3_228 : (Jvm.Cond.lays "BuyersArmModel" "BuyersArmModel" "place" "I") ∈ gtb := gtb_of (tb3 _ (List.mem_of_getElem? (i := 228) rfl)) rfl
theorem w3_230 : (Jvm.Cond.lays "BuyersArmModel" "BuyersArmModel" "people" "I") ∈ gtb := gtb_of (tb3 _ (List.mem_of_getElem? (i := 230) rfl)) rfl
theorem w3_232 : (Jvm.Cond.lays "BuyersArmModel" "BuyersArmModel" "counters" "I") ∈ gtb := gtb_of (tb3 _ (List.mem_of_getElem? (i := 232) rfl)) rfl
theorem w3_234 : (Jvm.Cond.laysFinal "BuyersArmModel" "BuyersArmModel" "arm" "[I") ∈ gtb := gtb_of (tb3 _ (List.mem_of_getElem? (i := 234) rfl)) rfl
theorem w3_236 : (Jvm.Cond.laysFinal "BuyersArmModel" "BuyersArmModel" "fee" "[I") ∈ gtb := gtb_of (tb3 _ (List.mem_of_getElem? (i := 236) rfl)) rfl
theorem w3_238 : (Jvm.Cond.laysFinal "BuyersArmModel" "BuyersArmModel" "price" "[I") ∈ gtb := gtb_of (tb3 _ (List.mem_of_getElem? (i := 238) rfl)) rfl
theorem w4_0 : (Jvm.Cond.laysFinal "BuyersArmModel" "BuyersArmModel" "stock" "[I") ∈ gtb := gtb_of (tb4 _ (List.mem_of_getElem? (i := 0) rfl)) rfl
theorem w4_2 : (Jvm.Cond.laysFinal "BuyersArmModel" "BuyersArmModel" "barred" "[Z") ∈ gtb := gtb_of (tb4 _ (List.mem_of_getElem? (i := 2) rfl)) rfl
theorem w4_4 : (Jvm.Cond.laysFinal "BuyersArmModel" "BuyersArmModel" "comers" "[I") ∈ gtb := gtb_of (tb4 _ (List.mem_of_getElem? (i := 4) rfl)) rfl
theorem w4_6 : (Jvm.Cond.laysFinal "BuyersArmModel" "BuyersArmModel" "keeps" "[Z") ∈ gtb := gtb_of (tb4 _ (List.mem_of_getElem? (i := 6) rfl)) rfl
theorem w4_8 : (Jvm.Cond.lays "BuyersArmModel" "BuyersArmModel" "common" "I") ∈ gtb := gtb_of (tb4 _ (List.mem_of_getElem? (i := 8) rfl)) rfl
theorem w4_10 : (Jvm.Cond.lays "BuyersArmModel" "BuyersArmModel" "readPeople" "I") ∈ gtb := gtb_of (tb4 _ (List.mem_of_getElem? (i := 10) rfl)) rfl
theorem w4_12 : (Jvm.Cond.lays "BuyersArmModel" "BuyersArmModel" "readCounters" "I") ∈ gtb := gtb_of (tb4 _ (List.mem_of_getElem? (i := 12) rfl)) rfl
theorem w4_14 : (Jvm.Cond.laysFinal "BuyersArmModel" "BuyersArmModel" "readArm" "[I") ∈ gtb := gtb_of (tb4 _ (List.mem_of_getElem? (i := 14) rfl)) rfl
theorem w4_16 : (Jvm.Cond.laysFinal "BuyersArmModel" "BuyersArmModel" "readFee" "[I") ∈ gtb := gtb_of (tb4 _ (List.mem_of_getElem? (i := 16) rfl)) rfl
theorem w4_18 : (Jvm.Cond.laysFinal "BuyersArmModel" "BuyersArmModel" "readPrice" "[I") ∈ gtb := gtb_of (tb4 _ (List.mem_of_getElem? (i := 18) rfl)) rfl
theorem w4_20 : (Jvm.Cond.laysFinal "BuyersArmModel" "BuyersArmModel" "readStock" "[I") ∈ gtb := gtb_of (tb4 _ (List.mem_of_getElem? (i := 20) rfl)) rfl
theorem w4_22 : (Jvm.Cond.laysFinal "BuyersArmModel" "BuyersArmModel" "readBarred" "[Z") ∈ gtb := gtb_of (tb4 _ (List.mem_of_getElem? (i := 22) rfl)) rfl
theorem w4_24 : (Jvm.Cond.lays "BuyersArmModel" "BuyersArmModel" "sales" "I") ∈ gtb := gtb_of (tb4 _ (List.mem_of_getElem? (i := 24) rfl)) rfl
theorem w4_26 : (Jvm.Cond.laysFinal "BuyersArmModel" "BuyersArmModel" "whoBuys" "[I") ∈ gtb := gtb_of (tb4 _ (List.mem_of_getElem? (i := 26) rfl)) rfl
theorem w4_28 : (Jvm.Cond.laysFinal "BuyersArmModel" "BuyersArmModel" "where" "[I") ∈ gtb := gtb_of (tb4 _ (List.mem_of_getElem? (i := 28) rfl)) rfl
theorem w4_30 : (Jvm.Cond.laysFinal "BuyersArmModel" "BuyersArmModel" "ells" "[I") ∈ gtb := gtb_of (tb4 _ (List.mem_of_getElem? (i := 30) rfl)) rfl
theorem w4_32 : (Jvm.Cond.laysFinal "BuyersArmModel" "BuyersArmModel" "parts" "[I") ∈ gtb := gtb_of (tb4 _ (List.mem_of_getElem? (i := 32) rfl)) rfl
theorem w4_34 : (Jvm.Cond.lays "BuyersArmModel" "BuyersArmModel" "changes" "I") ∈ gtb := gtb_of (tb4 _ (List.mem_of_getElem? (i := 34) rfl)) rfl
theorem w4_36 : (Jvm.Cond.laysFinal "BuyersArmModel" "BuyersArmModel" "from" "[I") ∈ gtb := gtb_of (tb4 _ (List.mem_of_getElem? (i := 36) rfl)) rfl
theorem w4_38 : (Jvm.Cond.laysFinal "BuyersArmModel" "BuyersArmModel" "to" "[I") ∈ gtb := gtb_of (tb4 _ (List.mem_of_getElem? (i := 38) rfl)) rfl
theorem w4_40 : (Jvm.Cond.laysFinal "BuyersArmModel" "BuyersArmModel" "gives" "[I") ∈ gtb := gtb_of (tb4 _ (List.mem_of_getElem? (i := 40) rfl)) rfl
theorem w4_42 : (Jvm.Cond.laysFinal "BuyersArmModel" "BuyersArmModel" "gets" "[I") ∈ gtb := gtb_of (tb4 _ (List.mem_of_getElem? (i := 42) rfl)) rfl
theorem w4_44 : (Jvm.Cond.laysFinal "BuyersArmModel" "BuyersArmModel" "armOf" "[I") ∈ gtb := gtb_of (tb4 _ (List.mem_of_getElem? (i := 44) rfl)) rfl
theorem w4_46 : (Jvm.Cond.lays "BuyersArmModel" "BuyersArmModel" "heldMany" "I") ∈ gtb := gtb_of (tb4 _ (List.mem_of_getElem? (i := 46) rfl)) rfl
theorem w4_48 : (Jvm.Cond.laysFinal "BuyersArmModel" "BuyersArmModel" "heldOne" "[I") ∈ gtb := gtb_of (tb4 _ (List.mem_of_getElem? (i := 48) rfl)) rfl
theorem w4_50 : (Jvm.Cond.laysFinal "BuyersArmModel" "BuyersArmModel" "heldE" "[I") ∈ gtb := gtb_of (tb4 _ (List.mem_of_getElem? (i := 50) rfl)) rfl
theorem w4_52 : (Jvm.Cond.laysFinal "BuyersArmModel" "BuyersArmModel" "heldOther" "[I") ∈ gtb := gtb_of (tb4 _ (List.mem_of_getElem? (i := 52) rfl)) rfl
theorem w4_54 : (Jvm.Cond.laysFinal "BuyersArmModel" "BuyersArmModel" "heldF" "[I") ∈ gtb := gtb_of (tb4 _ (List.mem_of_getElem? (i := 54) rfl)) rfl
theorem w4_56 : (Jvm.Cond.laysFinal "BuyersArmModel" "BuyersArmModel" "heldSign" "[I") ∈ gtb := gtb_of (tb4 _ (List.mem_of_getElem? (i := 56) rfl)) rfl
theorem w4_58 : (Jvm.Cond.laysFinal "BuyersArmModel" "BuyersArmModel" "kept" "[I") ∈ gtb := gtb_of (tb4 _ (List.mem_of_getElem? (i := 58) rfl)) rfl
theorem w4_60 : (Jvm.Cond.laysFinal "BuyersArmModel" "BuyersArmModel" "isKept" "[Z") ∈ gtb := gtb_of (tb4 _ (List.mem_of_getElem? (i := 60) rfl)) rfl
theorem w4_62 : (Jvm.Cond.laysFinal "BuyersArmModel" "BuyersArmModel" "few" "[I") ∈ gtb := gtb_of (tb4 _ (List.mem_of_getElem? (i := 62) rfl)) rfl
theorem w4_64 : (Jvm.Cond.laysFinal "BuyersArmModel" "BuyersArmModel" "best" "[I") ∈ gtb := gtb_of (tb4 _ (List.mem_of_getElem? (i := 64) rfl)) rfl
theorem w4_66 : (Jvm.Cond.laysFinal "BuyersArmModel" "BuyersArmModel" "tried" "[I") ∈ gtb := gtb_of (tb4 _ (List.mem_of_getElem? (i := 66) rfl)) rfl
theorem w4_68 : (Jvm.Cond.laysFinal "BuyersArmModel" "BuyersArmModel" "ring" "[I") ∈ gtb := gtb_of (tb4 _ (List.mem_of_getElem? (i := 68) rfl)) rfl
theorem w4_70 : (Jvm.Cond.lays "BuyersArmModel" "BuyersArmModel" "ringMany" "I") ∈ gtb := gtb_of (tb4 _ (List.mem_of_getElem? (i := 70) rfl)) rfl
theorem w4_72 : (Jvm.Cond.lays "BuyersArmModel" "BuyersArmModel" "ringUp" "J") ∈ gtb := gtb_of (tb4 _ (List.mem_of_getElem? (i := 72) rfl)) rfl
theorem w4_74 : (Jvm.Cond.lays "BuyersArmModel" "BuyersArmModel" "ringDown" "J") ∈ gtb := gtb_of (tb4 _ (List.mem_of_getElem? (i := 74) rfl)) rfl
theorem w4_76 : (Jvm.Cond.laysFinal "BuyersArmModel" "BuyersArmModel" "cuts" "[I") ∈ gtb := gtb_of (tb4 _ (List.mem_of_getElem? (i := 76) rfl)) rfl
theorem w4_78 : (Jvm.Cond.lays "BuyersArmModel" "BuyersArmModel" "low" "I") ∈ gtb := gtb_of (tb4 _ (List.mem_of_getElem? (i := 78) rfl)) rfl
theorem w4_80 : (Jvm.Cond.lays "BuyersArmModel" "BuyersArmModel" "high" "I") ∈ gtb := gtb_of (tb4 _ (List.mem_of_getElem? (i := 80) rfl)) rfl
theorem w4_83 : (Jvm.Cond.arrayClass Jvm.ClassFile.FieldType.boolean) ∈ gtb := gtb_of (tb4 _ (List.mem_of_getElem? (i := 83) rfl)) rfl
theorem w4_84 : (Jvm.Cond.methodLink "BuyersArmLaw" (19 : Nat) ({ cls := "BuyersArmModel", name := "write", desc := "(IJ)I" } : Jvm.MethodName)) ∈ gtb := gtb_of (tb4 _ (List.mem_of_getElem? (i := 84) rfl)) rfl
theorem w4_85 : (Jvm.Cond.instanceMethod ({ cls := "BuyersArmModel", name := "write", desc := "(IJ)I" } : Jvm.MethodName)) ∈ gtb := gtb_of (tb4 _ (List.mem_of_getElem? (i := 85) rfl)) rfl
theorem w4_86 : (Jvm.Cond.selects "BuyersArmModel" ({ cls := "BuyersArmModel", name := "write", desc := "(IJ)I" } : Jvm.MethodName) ({ cls := "BuyersArmModel", name := "write", desc := "(IJ)I" } : Jvm.MethodName)) ∈ gtb := gtb_of (tb4 _ (List.mem_of_getElem? (i := 86) rfl)) rfl
theorem w4_87 : (Jvm.Cond.code ({ cls := "BuyersArmModel", name := "write", desc := "(IJ)I" } : Jvm.MethodName) prog_11_method_7_code (5 : Nat) (Option.some Jvm.ClassFile.FieldType.int)) ∈ gtb := gtb_of (tb4 _ (List.mem_of_getElem? (i := 87) rfl)) rfl
theorem w4_88 : (Jvm.Cond.constantLong "BuyersArmModel" (130 : Nat) (8 : Int64)) ∈ gtb := gtb_of (tb4 _ (List.mem_of_getElem? (i := 88) rfl)) rfl
theorem w4_89 : (Jvm.Cond.methodLink "BuyersArmModel" (123 : Nat) ({ cls := "BuyersArmModel", name := "in", desc := "(JJJ)Z" } : Jvm.MethodName)) ∈ gtb := gtb_of (tb4 _ (List.mem_of_getElem? (i := 89) rfl)) rfl
theorem w4_90 : (Jvm.Cond.static ({ cls := "BuyersArmModel", name := "in", desc := "(JJJ)Z" } : Jvm.MethodName)) ∈ gtb := gtb_of (tb4 _ (List.mem_of_getElem? (i := 90) rfl)) rfl
theorem w4_91 : (Jvm.Cond.code ({ cls := "BuyersArmModel", name := "in", desc := "(JJJ)Z" } : Jvm.MethodName) prog_11_method_3_code (6 : Nat) (Option.some Jvm.ClassFile.FieldType.boolean)) ∈ gtb := gtb_of (tb4 _ (List.mem_of_getElem? (i := 91) rfl)) rfl
theorem w4_92 : (Jvm.Cond.methodLink "BuyersArmLaw" (24 : Nat) ({ cls := "BuyersArmModel", name := "wipe", desc := "()I" } : Jvm.MethodName)) ∈ gtb := gtb_of (tb4 _ (List.mem_of_getElem? (i := 92) rfl)) rfl
theorem w4_93 : (Jvm.Cond.instanceMethod ({ cls := "BuyersArmModel", name := "wipe", desc := "()I" } : Jvm.MethodName)) ∈ gtb := gtb_of (tb4 _ (List.mem_of_getElem? (i := 93) rfl)) rfl
theorem w4_94 : (Jvm.Cond.selects "BuyersArmModel" ({ cls := "BuyersArmModel", name := "wipe", desc := "()I" } : Jvm.MethodName) ({ cls := "BuyersArmModel", name := "wipe", desc := "()I" } : Jvm.MethodName)) ∈ gtb := gtb_of (tb4 _ (List.mem_of_getElem? (i := 94) rfl)) rfl
theorem w4_95 : (Jvm.Cond.code ({ cls := "BuyersArmModel", name := "wipe", desc := "()I" } : Jvm.MethodName) prog_11_method_8_code (2 : Nat) (Option.some Jvm.ClassFile.FieldType.int)) ∈ gtb := gtb_of (tb4 _ (List.mem_of_getElem? (i := 95) rfl)) rfl
theorem w4_96 : (Jvm.Cond.methodLink "BuyersArmLaw" (28 : Nat) ({ cls := "BuyersArmModel", name := "fault", desc := "()I" } : Jvm.MethodName)) ∈ gtb := gtb_of (tb4 _ (List.mem_of_getElem? (i := 96) rfl)) rfl
theorem w4_97 : (Jvm.Cond.instanceMethod ({ cls := "BuyersArmModel", name := "fault", desc := "()I" } : Jvm.MethodName)) ∈ gtb := gtb_of (tb4 _ (List.mem_of_getElem? (i := 97) rfl)) rfl
theorem w4_98 : (Jvm.Cond.selects "BuyersArmModel" ({ cls := "BuyersArmModel", name := "fault", desc := "()I" } : Jvm.MethodName) ({ cls := "BuyersArmModel", name := "fault", desc := "()I" } : Jvm.MethodName)) ∈ gtb := gtb_of (tb4 _ (List.mem_of_getElem? (i := 98) rfl)) rfl
theorem w4_99 : (Jvm.Cond.code ({ cls := "BuyersArmModel", name := "fault", desc := "()I" } : Jvm.MethodName) prog_11_method_18_code (1 : Nat) (Option.some Jvm.ClassFile.FieldType.int)) ∈ gtb := gtb_of (tb4 _ (List.mem_of_getElem? (i := 99) rfl)) rfl
theorem w4_100 : (Jvm.Cond.methodLink "BuyersArmModel" (173 : Nat) ({ cls := "BuyersArmModel", name := "readMarket", desc := "()I" } : Jvm.MethodName)) ∈ gtb := gtb_of (tb4 _ (List.mem_of_getElem? (i := 100) rfl)) rfl
theorem w4_102 : (Jvm.Cond.instanceMethod ({ cls := "BuyersArmModel", name := "readMarket", desc := "()I" } : Jvm.MethodName)) ∈ gtb := gtb_of (tb4 _ (List.mem_of_getElem? (i := 102) rfl)) rfl
theorem w4_103 : (Jvm.Cond.code ({ cls := "BuyersArmModel", name := "readMarket", desc := "()I" } : Jvm.MethodName) prog_11_method_17_code (2 : Nat) (Option.some Jvm.ClassFile.FieldType.int)) ∈ gtb := gtb_of (tb4 _ (List.mem_of_getElem? (i := 103) rfl)) rfl
theorem w4_104 : (Jvm.Cond.methodLink "BuyersArmModel" (170 : Nat) ({ cls := "BuyersArmModel", name := "readPart", desc := "()Z" } : Jvm.MethodName)) ∈ gtb := gtb_of (tb4 _ (List.mem_of_getElem? (i := 104) rfl)) rfl
theorem w4_106 : (Jvm.Cond.instanceMethod ({ cls := "BuyersArmModel", name := "readPart", desc := "()Z" } : Jvm.MethodName)) ∈ gtb := gtb_of (tb4 _ (List.mem_of_getElem? (i := 106) rfl)) rfl
theorem w4_107 : (Jvm.Cond.code ({ cls := "BuyersArmModel", name := "readPart", desc := "()Z" } : Jvm.MethodName) prog_11_method_16_code (2 : Nat) (Option.some Jvm.ClassFile.FieldType.boolean)) ∈ gtb := gtb_of (tb4 _ (List.mem_of_getElem? (i := 107) rfl)) rfl
theorem w4_108 : (Jvm.Cond.methodLink "BuyersArmModel" (157 : Nat) ({ cls := "BuyersArmModel", name := "readPerson", desc := "()Z" } : Jvm.MethodName)) ∈ gtb := gtb_of (tb4 _ (List.mem_of_getElem? (i := 108) rfl)) rfl
theorem w4_110 : (Jvm.Cond.instanceMethod ({ cls := "BuyersArmModel", name := "readPerson", desc := "()Z" } : Jvm.MethodName)) ∈ gtb := gtb_of (tb4 _ (List.mem_of_getElem? (i := 110) rfl)) rfl
theorem w4_111 : (Jvm.Cond.code ({ cls := "BuyersArmModel", name := "readPerson", desc := "()Z" } : Jvm.MethodName) prog_11_method_11_code (3 : Nat) (Option.some Jvm.ClassFile.FieldType.boolean)) ∈ gtb := gtb_of (tb4 _ (List.mem_of_getElem? (i := 111) rfl)) rfl
theorem w4_112 : (Jvm.Cond.methodLink "BuyersArmModel" (144 : Nat) ({ cls := "BuyersArmModel", name := "two", desc := "(I)I" } : Jvm.MethodName)) ∈ gtb := gtb_of (tb4 _ (List.mem_of_getElem? (i := 112) rfl)) rfl
theorem w4_114 : (Jvm.Cond.instanceMethod ({ cls := "BuyersArmModel", name := "two", desc := "(I)I" } : Jvm.MethodName)) ∈ gtb := gtb_of (tb4 _ (List.mem_of_getElem? (i := 114) rfl)) rfl
theorem w4_115 : (Jvm.Cond.code ({ cls := "BuyersArmModel", name := "two", desc := "(I)I" } : Jvm.MethodName) prog_11_method_10_code (4 : Nat) (Option.some Jvm.ClassFile.FieldType.int)) ∈ gtb := gtb_of (tb4 _ (List.mem_of_getElem? (i := 115) rfl)) rfl
theorem w4_116 : (Jvm.Cond.methodLink "BuyersArmModel" (140 : Nat) ({ cls := "BuyersArmModel", name := "figure", desc := "(I)I" } : Jvm.MethodName)) ∈ gtb := gtb_of (tb4 _ (List.mem_of_getElem? (i := 116) rfl)) rfl
theorem w4_118 : (Jvm.Cond.instanceMethod ({ cls := "BuyersArmModel", name := "figure", desc := "(I)I" } : Jvm.MethodName)) ∈ gtb := gtb_of (tb4 _ (List.mem_of_getElem? (i := 118) rfl)) rfl
theorem w4_119 : (Jvm.Cond.code ({ cls := "BuyersArmModel", name := "figure", desc := "(I)I" } : Jvm.MethodName) prog_11_method_9_code (2 : Nat) (Option.some Jvm.ClassFile.FieldType.int)) ∈ gtb := gtb_of (tb4 _ (List.mem_of_getElem? (i := 119) rfl)) rfl
theorem w4_120 : (Jvm.Cond.constantLong "BuyersArmModel" (138 : Nat) (9 : Int64)) ∈ gtb := gtb_of (tb4 _ (List.mem_of_getElem? (i := 120) rfl)) rfl
theorem w4_121 : (Jvm.Cond.methodLink "BuyersArmModel" (161 : Nat) ({ cls := "BuyersArmModel", name := "readCounter", desc := "()Z" } : Jvm.MethodName)) ∈ gtb := gtb_of (tb4 _ (List.mem_of_getElem? (i := 121) rfl)) rfl
theorem w4_123 : (Jvm.Cond.instanceMethod ({ cls := "BuyersArmModel", name := "readCounter", desc := "()Z" } : Jvm.MethodName)) ∈ gtb := gtb_of (tb4 _ (List.mem_of_getElem? (i := 123) rfl)) rfl
theorem w4_124 : (Jvm.Cond.code ({ cls := "BuyersArmModel", name := "readCounter", desc := "()Z" } : Jvm.MethodName) prog_11_method_12_code (4 : Nat) (Option.some Jvm.ClassFile.FieldType.boolean)) ∈ gtb := gtb_of (tb4 _ (List.mem_of_getElem? (i := 124) rfl)) rfl
theorem w4_125 : (Jvm.Cond.methodLink "BuyersArmModel" (164 : Nat) ({ cls := "BuyersArmModel", name := "hasAny", desc := "()Z" } : Jvm.MethodName)) ∈ gtb := gtb_of (tb4 _ (List.mem_of_getElem? (i := 125) rfl)) rfl
theorem w4_127 : (Jvm.Cond.instanceMethod ({ cls := "BuyersArmModel", name := "hasAny", desc := "()Z" } : Jvm.MethodName)) ∈ gtb := gtb_of (tb4 _ (List.mem_of_getElem? (i := 127) rfl)) rfl
theorem w4_128 : (Jvm.Cond.code ({ cls := "BuyersArmModel", name := "hasAny", desc := "()Z" } : Jvm.MethodName) prog_11_method_14_code (3 : Nat) (Option.some Jvm.ClassFile.FieldType.boolean)) ∈ gtb := gtb_of (tb4 _ (List.mem_of_getElem? (i := 128) rfl)) rfl
theorem w4_129 : (Jvm.Cond.methodLink "BuyersArmModel" (153 : Nat) ({ cls := "BuyersArmModel", name := "hasLeft", desc := "(I)Z" } : Jvm.MethodName)) ∈ gtb := gtb_of (tb4 _ (List.mem_of_getElem? (i := 129) rfl)) rfl
theorem w4_131 : (Jvm.Cond.instanceMethod ({ cls := "BuyersArmModel", name := "hasLeft", desc := "(I)Z" } : Jvm.MethodName)) ∈ gtb := gtb_of (tb4 _ (List.mem_of_getElem? (i := 131) rfl)) rfl
theorem w4_132 : (Jvm.Cond.code ({ cls := "BuyersArmModel", name := "hasLeft", desc := "(I)Z" } : Jvm.MethodName) prog_11_method_13_code (4 : Nat) (Option.some Jvm.ClassFile.FieldType.boolean)) ∈ gtb := gtb_of (tb4 _ (List.mem_of_getElem? (i := 132) rfl)) rfl
theorem w4_133 : (Jvm.Cond.methodLink "BuyersArmModel" (167 : Nat) ({ cls := "BuyersArmModel", name := "readBar", desc := "()Z" } : Jvm.MethodName)) ∈ gtb := gtb_of (tb4 _ (List.mem_of_getElem? (i := 133) rfl)) rfl
theorem w4_135 : (Jvm.Cond.instanceMethod ({ cls := "BuyersArmModel", name := "readBar", desc := "()Z" } : Jvm.MethodName)) ∈ gtb := gtb_of (tb4 _ (List.mem_of_getElem? (i := 135) rfl)) rfl
theorem w4_136 : (Jvm.Cond.code ({ cls := "BuyersArmModel", name := "readBar", desc := "()Z" } : Jvm.MethodName) prog_11_method_15_code (3 : Nat) (Option.some Jvm.ClassFile.FieldType.boolean)) ∈ gtb := gtb_of (tb4 _ (List.mem_of_getElem? (i := 136) rfl)) rfl
theorem w4_137 : (Jvm.Cond.methodLink "BuyersArmLaw" (32 : Nat) ({ cls := "BuyersArmModel", name := "market", desc := "()I" } : Jvm.MethodName)) ∈ gtb := gtb_of (tb4 _ (List.mem_of_getElem? (i := 137) rfl)) rfl
theorem w4_138 : (Jvm.Cond.instanceMethod ({ cls := "BuyersArmModel", name := "market", desc := "()I" } : Jvm.MethodName)) ∈ gtb := gtb_of (tb4 _ (List.mem_of_getElem? (i := 138) rfl)) rfl
theorem w4_139 : (Jvm.Cond.selects "BuyersArmModel" ({ cls := "BuyersArmModel", name := "market", desc := "()I" } : Jvm.MethodName) ({ cls := "BuyersArmModel", name := "market", desc := "()I" } : Jvm.MethodName)) ∈ gtb := gtb_of (tb4 _ (List.mem_of_getElem? (i := 139) rfl)) rfl
theorem w4_140 : (Jvm.Cond.code ({ cls := "BuyersArmModel", name := "market", desc := "()I" } : Jvm.MethodName) prog_11_method_19_code (2 : Nat) (Option.some Jvm.ClassFile.FieldType.int)) ∈ gtb := gtb_of (tb4 _ (List.mem_of_getElem? (i := 140) rfl)) rfl
theorem w4_141 : (Jvm.Cond.methodLink "BuyersArmLaw" (37 : Nat) ({ cls := "BuyersArmModel", name := "person", desc := "(II)I" } : Jvm.MethodName)) ∈ gtb := gtb_of (tb4 _ (List.mem_of_getElem? (i := 141) rfl)) rfl
theorem w4_142 : (Jvm.Cond.instanceMethod ({ cls := "BuyersArmModel", name := "person", desc := "(II)I" } : Jvm.MethodName)) ∈ gtb := gtb_of (tb4 _ (List.mem_of_getElem? (i := 142) rfl)) rfl
theorem w4_143 : (Jvm.Cond.selects "BuyersArmModel" ({ cls := "BuyersArmModel", name := "person", desc := "(II)I" } : Jvm.MethodName) ({ cls := "BuyersArmModel", name := "person", desc := "(II)I" } : Jvm.MethodName)) ∈ gtb := gtb_of (tb4 _ (List.mem_of_getElem? (i := 143) rfl)) rfl
theorem w4_144 : (Jvm.Cond.code ({ cls := "BuyersArmModel", name := "person", desc := "(II)I" } : Jvm.MethodName) prog_11_method_21_code (3 : Nat) (Option.some Jvm.ClassFile.FieldType.int)) ∈ gtb := gtb_of (tb4 _ (List.mem_of_getElem? (i := 144) rfl)) rfl
theorem w4_145 : (Jvm.Cond.methodLink "BuyersArmModel" (180 : Nat) ({ cls := "BuyersArmModel", name := "noOne", desc := "(I)Z" } : Jvm.MethodName)) ∈ gtb := gtb_of (tb4 _ (List.mem_of_getElem? (i := 145) rfl)) rfl
theorem w4_147 : (Jvm.Cond.instanceMethod ({ cls := "BuyersArmModel", name := "noOne", desc := "(I)Z" } : Jvm.MethodName)) ∈ gtb := gtb_of (tb4 _ (List.mem_of_getElem? (i := 147) rfl)) rfl
theorem w4_148 : (Jvm.Cond.code ({ cls := "BuyersArmModel", name := "noOne", desc := "(I)Z" } : Jvm.MethodName) prog_11_method_5_code (2 : Nat) (Option.some Jvm.ClassFile.FieldType.boolean)) ∈ gtb := gtb_of (tb4 _ (List.mem_of_getElem? (i := 148) rfl)) rfl
theorem w4_149 : (Jvm.Cond.methodLink "BuyersArmModel" (183 : Nat) ({ cls := "BuyersArmModel", name := "sumOf", desc := "(III)I" } : Jvm.MethodName)) ∈ gtb := gtb_of (tb4 _ (List.mem_of_getElem? (i := 149) rfl)) rfl
theorem w4_151 : (Jvm.Cond.instanceMethod ({ cls := "BuyersArmModel", name := "sumOf", desc := "(III)I" } : Jvm.MethodName)) ∈ gtb := gtb_of (tb4 _ (List.mem_of_getElem? (i := 151) rfl)) rfl
theorem w4_152 : (Jvm.Cond.code ({ cls := "BuyersArmModel", name := "sumOf", desc := "(III)I" } : Jvm.MethodName) prog_11_method_20_code (6 : Nat) (Option.some Jvm.ClassFile.FieldType.int)) ∈ gtb := gtb_of (tb4 _ (List.mem_of_getElem? (i := 152) rfl)) rfl
theorem w4_153 : (Jvm.Cond.methodLink "BuyersArmLaw" (41 : Nat) ({ cls := "BuyersArmModel", name := "counter", desc := "(II)I" } : Jvm.MethodName)) ∈ gtb := gtb_of (tb4 _ (List.mem_of_getElem? (i := 153) rfl)) rfl
theorem w4_154 : (Jvm.Cond.instanceMethod ({ cls := "BuyersArmModel", name := "counter", desc := "(II)I" } : Jvm.MethodName)) ∈ gtb := gtb_of (tb4 _ (List.mem_of_getElem? (i := 154) rfl)) rfl
theorem w4_155 : (Jvm.Cond.selects "BuyersArmModel" ({ cls := "BuyersArmModel", name := "counter", desc := "(II)I" } : Jvm.MethodName) ({ cls := "BuyersArmModel", name := "counter", desc := "(II)I" } : Jvm.MethodName)) ∈ gtb := gtb_of (tb4 _ (List.mem_of_getElem? (i := 155) rfl)) rfl
theorem w4_156 : (Jvm.Cond.code ({ cls := "BuyersArmModel", name := "counter", desc := "(II)I" } : Jvm.MethodName) prog_11_method_22_code (3 : Nat) (Option.some Jvm.ClassFile.FieldType.int)) ∈ gtb := gtb_of (tb4 _ (List.mem_of_getElem? (i := 156) rfl)) rfl
theorem w4_157 : (Jvm.Cond.methodLink "BuyersArmModel" (187 : Nat) ({ cls := "BuyersArmModel", name := "noCounter", desc := "(I)Z" } : Jvm.MethodName)) ∈ gtb := gtb_of (tb4 _ (List.mem_of_getElem? (i := 157) rfl)) rfl
theorem w4_159 : (Jvm.Cond.instanceMethod ({ cls := "BuyersArmModel", name := "noCounter", desc := "(I)Z" } : Jvm.MethodName)) ∈ gtb := gtb_of (tb4 _ (List.mem_of_getElem? (i := 159) rfl)) rfl
theorem w4_160 : (Jvm.Cond.code ({ cls := "BuyersArmModel", name := "noCounter", desc := "(I)Z" } : Jvm.MethodName) prog_11_method_6_code (2 : Nat) (Option.some Jvm.ClassFile.FieldType.boolean)) ∈ gtb := gtb_of (tb4 _ (List.mem_of_getElem? (i := 160) rfl)) rfl
theorem w4_161 : (Jvm.Cond.constant "BuyersArmModel" (190 : Nat) (1000000 : Int32)) ∈ gtb := gtb_of (tb4 _ (List.mem_of_getElem? (i := 161) rfl)) rfl
theorem w4_162 : (Jvm.Cond.methodLink "BuyersArmLaw" (45 : Nat) ({ cls := "BuyersArmModel", name := "barred", desc := "(II)I" } : Jvm.MethodName)) ∈ gtb := gtb_of (tb4 _ (List.mem_of_getElem? (i := 162) rfl)) rfl
theorem w4_163 : (Jvm.Cond.instanceMethod ({ cls := "BuyersArmModel", name := "barred", desc := "(II)I" } : Jvm.MethodName)) ∈ gtb := gtb_of (tb4 _ (List.mem_of_getElem? (i := 163) rfl)) rfl
theorem w4_164 : (Jvm.Cond.selects "BuyersArmModel" ({ cls := "BuyersArmModel", name := "barred", desc := "(II)I" } : Jvm.MethodName) ({ cls := "BuyersArmModel", name := "barred", desc := "(II)I" } : Jvm.MethodName)) ∈ gtb := gtb_of (tb4 _ (List.mem_of_getElem? (i := 164) rfl)) rfl
theorem w4_165 : (Jvm.Cond.code ({ cls := "BuyersArmModel", name := "barred", desc := "(II)I" } : Jvm.MethodName) prog_11_method_23_code (3 : Nat) (Option.some Jvm.ClassFile.FieldType.int)) ∈ gtb := gtb_of (tb4 _ (List.mem_of_getElem? (i := 165) rfl)) rfl
theorem w4_166 : (Jvm.Cond.methodLink "BuyersArmLaw" (49 : Nat) ({ cls := "BuyersArmModel", name := "plaster", desc := "(II)I" } : Jvm.MethodName)) ∈ gtb := gtb_of (tb4 _ (List.mem_of_getElem? (i := 166) rfl)) rfl
theorem w4_167 : (Jvm.Cond.instanceMethod ({ cls := "BuyersArmModel", name := "plaster", desc := "(II)I" } : Jvm.MethodName)) ∈ gtb := gtb_of (tb4 _ (List.mem_of_getElem? (i := 167) rfl)) rfl
theorem w4_168 : (Jvm.Cond.selects "BuyersArmModel" ({ cls := "BuyersArmModel", name := "plaster", desc := "(II)I" } : Jvm.MethodName) ({ cls := "BuyersArmModel", name := "plaster", desc := "(II)I" } : Jvm.MethodName)) ∈ gtb := gtb_of (tb4 _ (List.mem_of_getElem? (i := 168) rfl)) rfl
theorem w4_169 : (Jvm.Cond.code ({ cls := "BuyersArmModel", name := "plaster", desc := "(II)I" } : Jvm.MethodName) prog_11_method_24_code (4 : Nat) (Option.some Jvm.ClassFile.FieldType.int)) ∈ gtb := gtb_of (tb4 _ (List.mem_of_getElem? (i := 169) rfl)) rfl
theorem w4_170 : (Jvm.Cond.constantLong "BuyersArmModel" (191 : Nat) (99 : Int64)) ∈ gtb := gtb_of (tb4 _ (List.mem_of_getElem? (i := 170) rfl)) rfl
theorem w4_171 : (Jvm.Cond.methodLink "BuyersArmLaw" (54 : Nat) ({ cls := "BuyersArmModel", name := "common", desc := "(I)I" } : Jvm.MethodName)) ∈ gtb := gtb_of (tb4 _ (List.mem_of_getElem? (i := 171) rfl)) rfl
theorem w4_172 : (Jvm.Cond.instanceMethod ({ cls := "BuyersArmModel", name := "common", desc := "(I)I" } : Jvm.MethodName)) ∈ gtb := gtb_of (tb4 _ (List.mem_of_getElem? (i := 172) rfl)) rfl
theorem w4_173 : (Jvm.Cond.selects "BuyersArmModel" ({ cls := "BuyersArmModel", name := "common", desc := "(I)I" } : Jvm.MethodName) ({ cls := "BuyersArmModel", name := "common", desc := "(I)I" } : Jvm.MethodName)) ∈ gtb := gtb_of (tb4 _ (List.mem_of_getElem? (i := 173) rfl)) rfl
theorem w4_174 : (Jvm.Cond.code ({ cls := "BuyersArmModel", name := "common", desc := "(I)I" } : Jvm.MethodName) prog_11_method_25_code (3 : Nat) (Option.some Jvm.ClassFile.FieldType.int)) ∈ gtb := gtb_of (tb4 _ (List.mem_of_getElem? (i := 174) rfl)) rfl
theorem w4_175 : (Jvm.Cond.methodLink "BuyersArmLaw" (59 : Nat) ({ cls := "BuyersArmModel", name := "buy", desc := "(III)I" } : Jvm.MethodName)) ∈ gtb := gtb_of (tb4 _ (List.mem_of_getElem? (i := 175) rfl)) rfl
theorem w4_176 : (Jvm.Cond.instanceMethod ({ cls := "BuyersArmModel", name := "buy", desc := "(III)I" } : Jvm.MethodName)) ∈ gtb := gtb_of (tb4 _ (List.mem_of_getElem? (i := 176) rfl)) rfl
theorem w4_177 : (Jvm.Cond.selects "BuyersArmModel" ({ cls := "BuyersArmModel", name := "buy", desc := "(III)I" } : Jvm.MethodName) ({ cls := "BuyersArmModel", name := "buy", desc := "(III)I" } : Jvm.MethodName)) ∈ gtb := gtb_of (tb4 _ (List.mem_of_getElem? (i := 177) rfl)) rfl
theorem w4_178 : (Jvm.Cond.code ({ cls := "BuyersArmModel", name := "buy", desc := "(III)I" } : Jvm.MethodName) prog_11_method_26_code (4 : Nat) (Option.some Jvm.ClassFile.FieldType.int)) ∈ gtb := gtb_of (tb4 _ (List.mem_of_getElem? (i := 178) rfl)) rfl
theorem w4_179 : (Jvm.Cond.methodLink "BuyersArmLaw" (63 : Nat) ({ cls := "BuyersArmModel", name := "undo", desc := "()I" } : Jvm.MethodName)) ∈ gtb := gtb_of (tb4 _ (List.mem_of_getElem? (i := 179) rfl)) rfl
theorem w4_180 : (Jvm.Cond.instanceMethod ({ cls := "BuyersArmModel", name := "undo", desc := "()I" } : Jvm.MethodName)) ∈ gtb := gtb_of (tb4 _ (List.mem_of_getElem? (i := 180) rfl)) rfl
theorem w4_181 : (Jvm.Cond.selects "BuyersArmModel" ({ cls := "BuyersArmModel", name := "undo", desc := "()I" } : Jvm.MethodName) ({ cls := "BuyersArmModel", name := "undo", desc := "()I" } : Jvm.MethodName)) ∈ gtb := gtb_of (tb4 _ (List.mem_of_getElem? (i := 181) rfl)) rfl
theorem w4_182 : (Jvm.Cond.code ({ cls := "BuyersArmModel", name := "undo", desc := "()I" } : Jvm.MethodName) prog_11_method_27_code (1 : Nat) (Option.some Jvm.ClassFile.FieldType.int)) ∈ gtb := gtb_of (tb4 _ (List.mem_of_getElem? (i := 182) rfl)) rfl
theorem w4_183 : (Jvm.Cond.methodLink "BuyersArmLaw" (67 : Nat) ({ cls := "BuyersArmModel", name := "sale", desc := "(II)I" } : Jvm.MethodName)) ∈ gtb := gtb_of (tb4 _ (List.mem_of_getElem? (i := 183) rfl)) rfl
theorem w4_184 : (Jvm.Cond.instanceMethod ({ cls := "BuyersArmModel", name := "sale", desc := "(II)I" } : Jvm.MethodName)) ∈ gtb := gtb_of (tb4 _ (List.mem_of_getElem? (i := 184) rfl)) rfl
theorem w4_185 : (Jvm.Cond.selects "BuyersArmModel" ({ cls := "BuyersArmModel", name := "sale", desc := "(II)I" } : Jvm.MethodName) ({ cls := "BuyersArmModel", name := "sale", desc := "(II)I" } : Jvm.MethodName)) ∈ gtb := gtb_of (tb4 _ (List.mem_of_getElem? (i := 185) rfl)) rfl
theorem w4_186 : (Jvm.Cond.code ({ cls := "BuyersArmModel", name := "sale", desc := "(II)I" } : Jvm.MethodName) prog_11_method_28_code (3 : Nat) (Option.some Jvm.ClassFile.FieldType.int)) ∈ gtb := gtb_of (tb4 _ (List.mem_of_getElem? (i := 186) rfl)) rfl
theorem w4_187 : (Jvm.Cond.constantLong "BuyersArmModel" (193 : Nat) (3 : Int64)) ∈ gtb := gtb_of (tb4 _ (List.mem_of_getElem? (i := 187) rfl)) rfl
theorem w4_188 : (Jvm.Cond.methodLink "BuyersArmLaw" (72 : Nat) ({ cls := "BuyersArmModel", name := "truly", desc := "(IIZ)I" } : Jvm.MethodName)) ∈ gtb := gtb_of (tb4 _ (List.mem_of_getElem? (i := 188) rfl)) rfl
theorem w4_189 : (Jvm.Cond.instanceMethod ({ cls := "BuyersArmModel", name := "truly", desc := "(IIZ)I" } : Jvm.MethodName)) ∈ gtb := gtb_of (tb4 _ (List.mem_of_getElem? (i := 189) rfl)) rfl
theorem w4_190 : (Jvm.Cond.selects "BuyersArmModel" ({ cls := "BuyersArmModel", name := "truly", desc := "(IIZ)I" } : Jvm.MethodName) ({ cls := "BuyersArmModel", name := "truly", desc := "(IIZ)I" } : Jvm.MethodName)) ∈ gtb := gtb_of (tb4 _ (List.mem_of_getElem? (i := 190) rfl)) rfl
theorem w4_191 : (Jvm.Cond.code ({ cls := "BuyersArmModel", name := "truly", desc := "(IIZ)I" } : Jvm.MethodName) prog_11_method_30_code (5 : Nat) (Option.some Jvm.ClassFile.FieldType.int)) ∈ gtb := gtb_of (tb4 _ (List.mem_of_getElem? (i := 191) rfl)) rfl
theorem w4_192 : (Jvm.Cond.methodLink "BuyersArmModel" (195 : Nat) ({ cls := "BuyersArmModel", name := "divisor", desc := "(JJ)J" } : Jvm.MethodName)) ∈ gtb := gtb_of (tb4 _ (List.mem_of_getElem? (i := 192) rfl)) rfl
theorem w4_193 : (Jvm.Cond.static ({ cls := "BuyersArmModel", name := "divisor", desc := "(JJ)J" } : Jvm.MethodName)) ∈ gtb := gtb_of (tb4 _ (List.mem_of_getElem? (i := 193) rfl)) rfl
theorem w4_194 : (Jvm.Cond.code ({ cls := "BuyersArmModel", name := "divisor", desc := "(JJ)J" } : Jvm.MethodName) prog_11_method_29_code (10 : Nat) (Option.some Jvm.ClassFile.FieldType.long)) ∈ gtb := gtb_of (tb4 _ (List.mem_of_getElem? (i := 194) rfl)) rfl
theorem w4_195 : (Jvm.Cond.methodLink "BuyersArmLaw" (76 : Nat) ({ cls := "BuyersArmModel", name := "cheapest", desc := "(II)I" } : Jvm.MethodName)) ∈ gtb := gtb_of (tb4 _ (List.mem_of_getElem? (i := 195) rfl)) rfl
theorem w4_196 : (Jvm.Cond.instanceMethod ({ cls := "BuyersArmModel", name := "cheapest", desc := "(II)I" } : Jvm.MethodName)) ∈ gtb := gtb_of (tb4 _ (List.mem_of_getElem? (i := 196) rfl)) rfl
theorem w4_197 : (Jvm.Cond.selects "BuyersArmModel" ({ cls := "BuyersArmModel", name := "cheapest", desc := "(II)I" } : Jvm.MethodName) ({ cls := "BuyersArmModel", name := "cheapest", desc := "(II)I" } : Jvm.MethodName)) ∈ gtb := gtb_of (tb4 _ (List.mem_of_getElem? (i := 197) rfl)) rfl
theorem w4_198 : (Jvm.Cond.code ({ cls := "BuyersArmModel", name := "cheapest", desc := "(II)I" } : Jvm.MethodName) prog_11_method_35_code (3 : Nat) (Option.some Jvm.ClassFile.FieldType.int)) ∈ gtb := gtb_of (tb4 _ (List.mem_of_getElem? (i := 198) rfl)) rfl
theorem w4_199 : (Jvm.Cond.constantLong "BuyersArmModel" (216 : Nat) (999 : Int64)) ∈ gtb := gtb_of (tb4 _ (List.mem_of_getElem? (i := 199) rfl)) rfl
theorem w4_200 : (Jvm.Cond.methodLink "BuyersArmModel" (218 : Nat) ({ cls := "BuyersArmModel", name := "findCheapest", desc := "(II)I" } : Jvm.MethodName)) ∈ gtb := gtb_of (tb4 _ (List.mem_of_getElem? (i := 200) rfl)) rfl
theorem w4_202 : (Jvm.Cond.instanceMethod ({ cls := "BuyersArmModel", name := "findCheapest", desc := "(II)I" } : Jvm.MethodName)) ∈ gtb := gtb_of (tb4 _ (List.mem_of_getElem? (i := 202) rfl)) rfl
theorem w4_203 : (Jvm.Cond.code ({ cls := "BuyersArmModel", name := "findCheapest", desc := "(II)I" } : Jvm.MethodName) prog_11_method_34_code (10 : Nat) (Option.some Jvm.ClassFile.FieldType.int)) ∈ gtb := gtb_of (tb4 _ (List.mem_of_getElem? (i := 203) rfl)) rfl
theorem w4_204 : (Jvm.Cond.methodLink "BuyersArmModel" (200 : Nat) ({ cls := "BuyersArmModel", name := "has", desc := "(II)Z" } : Jvm.MethodName)) ∈ gtb := gtb_of (tb4 _ (List.mem_of_getElem? (i := 204) rfl)) rfl
theorem w4_205 : (Jvm.Cond.static ({ cls := "BuyersArmModel", name := "has", desc := "(II)Z" } : Jvm.MethodName)) ∈ gtb := gtb_of (tb4 _ (List.mem_of_getElem? (i := 205) rfl)) rfl
theorem w4_206 : (Jvm.Cond.code ({ cls := "BuyersArmModel", name := "has", desc := "(II)Z" } : Jvm.MethodName) prog_11_method_4_code (2 : Nat) (Option.some Jvm.ClassFile.FieldType.boolean)) ∈ gtb := gtb_of (tb4 _ (List.mem_of_getElem? (i := 206) rfl)) rfl
theorem w4_207 : (Jvm.Cond.methodLink "BuyersArmModel" (208 : Nat) ({ cls := "BuyersArmModel", name := "layFew", desc := "(II)V" } : Jvm.MethodName)) ∈ gtb := gtb_of (tb4 _ (List.mem_of_getElem? (i := 207) rfl)) rfl
theorem w4_209 : (Jvm.Cond.instanceMethod ({ cls := "BuyersArmModel", name := "layFew", desc := "(II)V" } : Jvm.MethodName)) ∈ gtb := gtb_of (tb4 _ (List.mem_of_getElem? (i := 209) rfl)) rfl
theorem w4_210 : (Jvm.Cond.code ({ cls := "BuyersArmModel", name := "layFew", desc := "(II)V" } : Jvm.MethodName) prog_11_method_31_code (8 : Nat) (Option.none : Option Jvm.ClassFile.FieldType)) ∈ gtb := gtb_of (tb4 _ (List.mem_of_getElem? (i := 210) rfl)) rfl
theorem w4_211 : (Jvm.Cond.constant "BuyersArmModel" (199 : Nat) (99999 : Int32)) ∈ gtb := gtb_of (tb4 _ (List.mem_of_getElem? (i := 211) rfl)) rfl
theorem w4_212 : (Jvm.Cond.methodLink "BuyersArmModel" (212 : Nat) ({ cls := "BuyersArmModel", name := "layWay", desc := "(IIII)V" } : Jvm.MethodName)) ∈ gtb := gtb_of (tb4 _ (List.mem_of_getElem? (i := 212) rfl)) rfl
theorem w4_214 : (Jvm.Cond.instanceMethod ({ cls := "BuyersArmModel", name := "layWay", desc := "(IIII)V" } : Jvm.MethodName)) ∈ gtb := gtb_of (tb4 _ (List.mem_of_getElem? (i := 214) rfl)) rfl
theorem w4_215 : (Jvm.Cond.code ({ cls := "BuyersArmModel", name := "layWay", desc := "(IIII)V" } : Jvm.MethodName) prog_11_method_33_code (9 : Nat) (Option.none : Option Jvm.ClassFile.FieldType)) ∈ gtb := gtb_of (tb4 _ (List.mem_of_getElem? (i := 215) rfl)) rfl
theorem w4_216 : (Jvm.Cond.methodLink "BuyersArmModel" (204 : Nat) ({ cls := "BuyersArmModel", name := "can", desc := "(IIIII)Z" } : Jvm.MethodName)) ∈ gtb := gtb_of (tb4 _ (List.mem_of_getElem? (i := 216) rfl)) rfl
theorem w4_218 : (Jvm.Cond.instanceMethod ({ cls := "BuyersArmModel", name := "can", desc := "(IIIII)Z" } : Jvm.MethodName)) ∈ gtb := gtb_of (tb4 _ (List.mem_of_getElem? (i := 218) rfl)) rfl
theorem w4_219 : (Jvm.Cond.code ({ cls := "BuyersArmModel", name := "can", desc := "(IIIII)Z" } : Jvm.MethodName) prog_11_method_32_code (8 : Nat) (Option.some Jvm.ClassFile.FieldType.boolean)) ∈ gtb := gtb_of (tb4 _ (List.mem_of_getElem? (i := 219) rfl)) rfl
theorem w4_220 : (Jvm.Cond.methodLink "BuyersArmLaw" (80 : Nat) ({ cls := "BuyersArmModel", name := "cheapestBy", desc := "(III)I" } : Jvm.MethodName)) ∈ gtb := gtb_of (tb4 _ (List.mem_of_getElem? (i := 220) rfl)) rfl
theorem w4_221 : (Jvm.Cond.instanceMethod ({ cls := "BuyersArmModel", name := "cheapestBy", desc := "(III)I" } : Jvm.MethodName)) ∈ gtb := gtb_of (tb4 _ (List.mem_of_getElem? (i := 221) rfl)) rfl
theorem w4_222 : (Jvm.Cond.selects "BuyersArmModel" ({ cls := "BuyersArmModel", name := "cheapestBy", desc := "(III)I" } : Jvm.MethodName) ({ cls := "BuyersArmModel", name := "cheapestBy", desc := "(III)I" } : Jvm.MethodName)) ∈ gtb := gtb_of (tb4 _ (List.mem_of_getElem? (i := 222) rfl)) rfl
theorem w4_223 : (Jvm.Cond.code ({ cls := "BuyersArmModel", name := "cheapestBy", desc := "(III)I" } : Jvm.MethodName) prog_11_method_36_code (4 : Nat) (Option.some Jvm.ClassFile.FieldType.int)) ∈ gtb := gtb_of (tb4 _ (List.mem_of_getElem? (i := 223) rfl)) rfl
theorem w4_224 : (Jvm.Cond.methodLink "BuyersArmLaw" (85 : Nat) ({ cls := "BuyersArmModel", name := "exchange", desc := "(IIIII)I" } : Jvm.MethodName)) ∈ gtb := gtb_of (tb4 _ (List.mem_of_getElem? (i := 224) rfl)) rfl
theorem w4_225 : (Jvm.Cond.instanceMethod ({ cls := "BuyersArmModel", name := "exchange", desc := "(IIIII)I" } : Jvm.MethodName)) ∈ gtb := gtb_of (tb4 _ (List.mem_of_getElem? (i := 225) rfl)) rfl
theorem w4_226 : (Jvm.Cond.selects "BuyersArmModel" ({ cls := "BuyersArmModel", name := "exchange", desc := "(IIIII)I" } : Jvm.MethodName) ({ cls := "BuyersArmModel", name := "exchange", desc := "(IIIII)I" } : Jvm.MethodName)) ∈ gtb := gtb_of (tb4 _ (List.mem_of_getElem? (i := 226) rfl)) rfl
theorem w4_227 : (Jvm.Cond.code ({ cls := "BuyersArmModel", name := "exchange", desc := "(IIIII)I" } : Jvm.MethodName) prog_11_method_37_code (6 : Nat) (Option.some Jvm.ClassFile.FieldType.int)) ∈ gtb := gtb_of (tb4 _ (List.mem_of_getElem? (i := 227) rfl)) rfl
theorem w4_228 : (Jvm.Cond.constantLong "BuyersArmModel" (222 : Nat) (2 : Int64)) ∈ gtb := gtb_of (tb4 _ (List.mem_of_getElem? (i := 228) rfl)) rfl
theorem w4_229 : (Jvm.Cond.methodLink "BuyersArmLaw" (89 : Nat) ({ cls := "BuyersArmModel", name := "unchange", desc := "()I" } : Jvm.MethodName)) ∈ gtb := gtb_of (tb4 _ (List.mem_of_getElem? (i := 229) rfl)) rfl
theorem w4_230 : (Jvm.Cond.instanceMethod ({ cls := "BuyersArmModel", name := "unchange", desc := "()I" } : Jvm.MethodName)) ∈ gtb := gtb_of (tb4 _ (List.mem_of_getElem? (i := 230) rfl)) rfl
theorem w4_231 : (Jvm.Cond.selects "BuyersArmModel" ({ cls := "BuyersArmModel", name := "unchange", desc := "()I" } : Jvm.MethodName) ({ cls := "BuyersArmModel", name := "unchange", desc := "()I" } : Jvm.MethodName)) ∈ gtb := gtb_of (tb4 _ (List.mem_of_getElem? (i := 231) rfl)) rfl
theorem w4_232 : (Jvm.Cond.code ({ cls := "BuyersArmModel", name := "unchange", desc := "()I" } : Jvm.MethodName) prog_11_method_38_code (2 : Nat) (Option.some Jvm.ClassFile.FieldType.int)) ∈ gtb := gtb_of (tb4 _ (List.mem_of_getElem? (i := 232) rfl)) rfl
theorem w4_233 : (Jvm.Cond.methodLink "BuyersArmLaw" (94 : Nat) ({ cls := "BuyersArmModel", name := "ring", desc := "(IZ)J" } : Jvm.MethodName)) ∈ gtb := gtb_of (tb4 _ (List.mem_of_getElem? (i := 233) rfl)) rfl
theorem w4_234 : (Jvm.Cond.instanceMethod ({ cls := "BuyersArmModel", name := "ring", desc := "(IZ)J" } : Jvm.MethodName)) ∈ gtb := gtb_of (tb4 _ (List.mem_of_getElem? (i := 234) rfl)) rfl
theorem w4_235 : (Jvm.Cond.selects "BuyersArmModel" ({ cls := "BuyersArmModel", name := "ring", desc := "(IZ)J" } : Jvm.MethodName) ({ cls := "BuyersArmModel", name := "ring", desc := "(IZ)J" } : Jvm.MethodName)) ∈ gtb := gtb_of (tb4 _ (List.mem_of_getElem? (i := 235) rfl)) rfl
theorem w4_236 : (Jvm.Cond.code ({ cls := "BuyersArmModel", name := "ring", desc := "(IZ)J" } : Jvm.MethodName) prog_11_method_41_code (5 : Nat) (Option.some Jvm.ClassFile.FieldType.long)) ∈ gtb := gtb_of (tb4 _ (List.mem_of_getElem? (i := 236) rfl)) rfl
theorem w4_237 : (Jvm.Cond.constantLong "BuyersArmModel" (240 : Nat) (-1 : Int64)) ∈ gtb := gtb_of (tb4 _ (List.mem_of_getElem? (i := 237) rfl)) rfl
theorem w4_238 : (Jvm.Cond.methodLink "BuyersArmModel" (242 : Nat) ({ cls := "BuyersArmModel", name := "findRing", desc := "(I)Z" } : Jvm.MethodName)) ∈ gtb := gtb_of (tb4 _ (List.mem_of_getElem? (i := 238) rfl)) rfl
theorem w5_0 : (Jvm.Cond.instanceMethod ({ cls := "BuyersArmModel", name := "findRing", desc := "(I)Z" } : Jvm.MethodName)) ∈ gtb := gtb_of (tb5 _ (List.mem_of_getElem? (i := 0) rfl)) rfl
theorem w5_1 : (Jvm.Cond.code ({ cls := "BuyersArmModel", name := "findRing", desc := "(I)Z" } : Jvm.MethodName) prog_11_method_40_code (12 : Nat) (Option.some Jvm.ClassFile.FieldType.boolean)) ∈ gtb := gtb_of (tb5 _ (List.mem_of_getElem? (i := 1) rfl)) rfl
theorem w5_2 : (Jvm.Cond.methodLink "BuyersArmModel" (237 : Nat) ({ cls := "BuyersArmModel", name := "isRing", desc := "(I)Z" } : Jvm.MethodName)) ∈ gtb := gtb_of (tb5 _ (List.mem_of_getElem? (i := 2) rfl)) rfl
theorem w5_4 : (Jvm.Cond.instanceMethod ({ cls := "BuyersArmModel", name := "isRing", desc := "(I)Z" } : Jvm.MethodName)) ∈ gtb := gtb_of (tb5 _ (List.mem_of_getElem? (i := 4) rfl)) rfl
theorem w5_5 : (Jvm.Cond.code ({ cls := "BuyersArmModel", name := "isRing", desc := "(I)Z" } : Jvm.MethodName) prog_11_method_39_code (5 : Nat) (Option.some Jvm.ClassFile.FieldType.boolean)) ∈ gtb := gtb_of (tb5 _ (List.mem_of_getElem? (i := 5) rfl)) rfl
theorem w5_6 : (Jvm.Cond.constantLong "BuyersArmModel" (245 : Nat) (-9 : Int64)) ∈ gtb := gtb_of (tb5 _ (List.mem_of_getElem? (i := 6) rfl)) rfl
theorem w5_7 : (Jvm.Cond.methodLink "BuyersArmLaw" (98 : Nat) ({ cls := "BuyersArmModel", name := "ringAt", desc := "(II)I" } : Jvm.MethodName)) ∈ gtb := gtb_of (tb5 _ (List.mem_of_getElem? (i := 7) rfl)) rfl
theorem w5_8 : (Jvm.Cond.instanceMethod ({ cls := "BuyersArmModel", name := "ringAt", desc := "(II)I" } : Jvm.MethodName)) ∈ gtb := gtb_of (tb5 _ (List.mem_of_getElem? (i := 8) rfl)) rfl
theorem w5_9 : (Jvm.Cond.selects "BuyersArmModel" ({ cls := "BuyersArmModel", name := "ringAt", desc := "(II)I" } : Jvm.MethodName) ({ cls := "BuyersArmModel", name := "ringAt", desc := "(II)I" } : Jvm.MethodName)) ∈ gtb := gtb_of (tb5 _ (List.mem_of_getElem? (i := 9) rfl)) rfl
theorem w5_10 : (Jvm.Cond.code ({ cls := "BuyersArmModel", name := "ringAt", desc := "(II)I" } : Jvm.MethodName) prog_11_method_42_code (3 : Nat) (Option.some Jvm.ClassFile.FieldType.int)) ∈ gtb := gtb_of (tb5 _ (List.mem_of_getElem? (i := 10) rfl)) rfl
theorem w5_11 : (Jvm.Cond.methodLink "BuyersArmLaw" (102 : Nat) ({ cls := "BuyersArmModel", name := "come", desc := "(II)I" } : Jvm.MethodName)) ∈ gtb := gtb_of (tb5 _ (List.mem_of_getElem? (i := 11) rfl)) rfl
theorem w5_12 : (Jvm.Cond.instanceMethod ({ cls := "BuyersArmModel", name := "come", desc := "(II)I" } : Jvm.MethodName)) ∈ gtb := gtb_of (tb5 _ (List.mem_of_getElem? (i := 12) rfl)) rfl
theorem w5_13 : (Jvm.Cond.selects "BuyersArmModel" ({ cls := "BuyersArmModel", name := "come", desc := "(II)I" } : Jvm.MethodName) ({ cls := "BuyersArmModel", name := "come", desc := "(II)I" } : Jvm.MethodName)) ∈ gtb := gtb_of (tb5 _ (List.mem_of_getElem? (i := 13) rfl)) rfl
theorem w5_14 : (Jvm.Cond.code ({ cls := "BuyersArmModel", name := "come", desc := "(II)I" } : Jvm.MethodName) prog_11_method_43_code (4 : Nat) (Option.some Jvm.ClassFile.FieldType.int)) ∈ gtb := gtb_of (tb5 _ (List.mem_of_getElem? (i := 14) rfl)) rfl
theorem w5_15 : (Jvm.Cond.methodLink "BuyersArmLaw" (106 : Nat) ({ cls := "BuyersArmModel", name := "earned", desc := "(III)I" } : Jvm.MethodName)) ∈ gtb := gtb_of (tb5 _ (List.mem_of_getElem? (i := 15) rfl)) rfl
theorem w5_16 : (Jvm.Cond.instanceMethod ({ cls := "BuyersArmModel", name := "earned", desc := "(III)I" } : Jvm.MethodName)) ∈ gtb := gtb_of (tb5 _ (List.mem_of_getElem? (i := 16) rfl)) rfl
theorem w5_17 : (Jvm.Cond.selects "BuyersArmModel" ({ cls := "BuyersArmModel", name := "earned", desc := "(III)I" } : Jvm.MethodName) ({ cls := "BuyersArmModel", name := "earned", desc := "(III)I" } : Jvm.MethodName)) ∈ gtb := gtb_of (tb5 _ (List.mem_of_getElem? (i := 17) rfl)) rfl
theorem w5_18 : (Jvm.Cond.code ({ cls := "BuyersArmModel", name := "earned", desc := "(III)I" } : Jvm.MethodName) prog_11_method_45_code (4 : Nat) (Option.some Jvm.ClassFile.FieldType.int)) ∈ gtb := gtb_of (tb5 _ (List.mem_of_getElem? (i := 18) rfl)) rfl
theorem w5_19 : (Jvm.Cond.constant "BuyersArmModel" (247 : Nat) (100000 : Int32)) ∈ gtb := gtb_of (tb5 _ (List.mem_of_getElem? (i := 19) rfl)) rfl
theorem w5_20 : (Jvm.Cond.methodLink "BuyersArmModel" (248 : Nat) ({ cls := "BuyersArmModel", name := "earnedBy", desc := "(III)I" } : Jvm.MethodName)) ∈ gtb := gtb_of (tb5 _ (List.mem_of_getElem? (i := 20) rfl)) rfl
theorem w5_22 : (Jvm.Cond.instanceMethod ({ cls := "BuyersArmModel", name := "earnedBy", desc := "(III)I" } : Jvm.MethodName)) ∈ gtb := gtb_of (tb5 _ (List.mem_of_getElem? (i := 22) rfl)) rfl
theorem w5_23 : (Jvm.Cond.code ({ cls := "BuyersArmModel", name := "earnedBy", desc := "(III)I" } : Jvm.MethodName) prog_11_method_44_code (6 : Nat) (Option.some Jvm.ClassFile.FieldType.int)) ∈ gtb := gtb_of (tb5 _ (List.mem_of_getElem? (i := 23) rfl)) rfl
theorem w5_24 : (Jvm.Cond.methodLink "BuyersArmLaw" (110 : Nat) ({ cls := "BuyersArmModel", name := "ask", desc := "(II)I" } : Jvm.MethodName)) ∈ gtb := gtb_of (tb5 _ (List.mem_of_getElem? (i := 24) rfl)) rfl
theorem w5_25 : (Jvm.Cond.instanceMethod ({ cls := "BuyersArmModel", name := "ask", desc := "(II)I" } : Jvm.MethodName)) ∈ gtb := gtb_of (tb5 _ (List.mem_of_getElem? (i := 25) rfl)) rfl
theorem w5_26 : (Jvm.Cond.selects "BuyersArmModel" ({ cls := "BuyersArmModel", name := "ask", desc := "(II)I" } : Jvm.MethodName) ({ cls := "BuyersArmModel", name := "ask", desc := "(II)I" } : Jvm.MethodName)) ∈ gtb := gtb_of (tb5 _ (List.mem_of_getElem? (i := 26) rfl)) rfl
theorem w5_27 : (Jvm.Cond.code ({ cls := "BuyersArmModel", name := "ask", desc := "(II)I" } : Jvm.MethodName) prog_11_method_46_code (5 : Nat) (Option.some Jvm.ClassFile.FieldType.int)) ∈ gtb := gtb_of (tb5 _ (List.mem_of_getElem? (i := 27) rfl)) rfl
theorem w5_28 : (Jvm.Cond.methodLink "BuyersArmLaw" (115 : Nat) ({ cls := "BuyersArmModel", name := "keeper", desc := "(IZ)I" } : Jvm.MethodName)) ∈ gtb := gtb_of (tb5 _ (List.mem_of_getElem? (i := 28) rfl)) rfl
theorem w5_29 : (Jvm.Cond.instanceMethod ({ cls := "BuyersArmModel", name := "keeper", desc := "(IZ)I" } : Jvm.MethodName)) ∈ gtb := gtb_of (tb5 _ (List.mem_of_getElem? (i := 29) rfl)) rfl
theorem w5_30 : (Jvm.Cond.selects "BuyersArmModel" ({ cls := "BuyersArmModel", name := "keeper", desc := "(IZ)I" } : Jvm.MethodName) ({ cls := "BuyersArmModel", name := "keeper", desc := "(IZ)I" } : Jvm.MethodName)) ∈ gtb := gtb_of (tb5 _ (List.mem_of_getElem? (i := 30) rfl)) rfl
theorem w5_31 : (Jvm.Cond.code ({ cls := "BuyersArmModel", name := "keeper", desc := "(IZ)I" } : Jvm.MethodName) prog_11_method_47_code (4 : Nat) (Option.some Jvm.ClassFile.FieldType.int)) ∈ gtb := gtb_of (tb5 _ (List.mem_of_getElem? (i := 31) rfl)) rfl
theorem w5_32 : (Jvm.Cond.methodLink "BuyersArmLaw" (119 : Nat) ({ cls := "BuyersArmModel", name := "losers", desc := "(I)I" } : Jvm.MethodName)) ∈ gtb := gtb_of (tb5 _ (List.mem_of_getElem? (i := 32) rfl)) rfl
theorem w5_33 : (Jvm.Cond.instanceMethod ({ cls := "BuyersArmModel", name := "losers", desc := "(I)I" } : Jvm.MethodName)) ∈ gtb := gtb_of (tb5 _ (List.mem_of_getElem? (i := 33) rfl)) rfl
theorem w5_34 : (Jvm.Cond.selects "BuyersArmModel" ({ cls := "BuyersArmModel", name := "losers", desc := "(I)I" } : Jvm.MethodName) ({ cls := "BuyersArmModel", name := "losers", desc := "(I)I" } : Jvm.MethodName)) ∈ gtb := gtb_of (tb5 _ (List.mem_of_getElem? (i := 34) rfl)) rfl
theorem w5_35 : (Jvm.Cond.code ({ cls := "BuyersArmModel", name := "losers", desc := "(I)I" } : Jvm.MethodName) prog_11_method_49_code (2 : Nat) (Option.some Jvm.ClassFile.FieldType.int)) ∈ gtb := gtb_of (tb5 _ (List.mem_of_getElem? (i := 35) rfl)) rfl
theorem w5_36 : (Jvm.Cond.methodLink "BuyersArmModel" (251 : Nat) ({ cls := "BuyersArmModel", name := "losersBy", desc := "(I)I" } : Jvm.MethodName)) ∈ gtb := gtb_of (tb5 _ (List.mem_of_getElem? (i := 36) rfl)) rfl
theorem w5_38 : (Jvm.Cond.instanceMethod ({ cls := "BuyersArmModel", name := "losersBy", desc := "(I)I" } : Jvm.MethodName)) ∈ gtb := gtb_of (tb5 _ (List.mem_of_getElem? (i := 38) rfl)) rfl
theorem w5_39 : (Jvm.Cond.code ({ cls := "BuyersArmModel", name := "losersBy", desc := "(I)I" } : Jvm.MethodName) prog_11_method_48_code (4 : Nat) (Option.some Jvm.ClassFile.FieldType.int)) ∈ gtb := gtb_of (tb5 _ (List.mem_of_getElem? (i := 39) rfl)) rfl
theorem w5_40 : (Jvm.Cond.methodLink "BuyersArmLaw" (123 : Nat) ({ cls := "BuyersArmModel", name := "fairest", desc := "()I" } : Jvm.MethodName)) ∈ gtb := gtb_of (tb5 _ (List.mem_of_getElem? (i := 40) rfl)) rfl
theorem w5_41 : (Jvm.Cond.instanceMethod ({ cls := "BuyersArmModel", name := "fairest", desc := "()I" } : Jvm.MethodName)) ∈ gtb := gtb_of (tb5 _ (List.mem_of_getElem? (i := 41) rfl)) rfl
theorem w5_42 : (Jvm.Cond.selects "BuyersArmModel" ({ cls := "BuyersArmModel", name := "fairest", desc := "()I" } : Jvm.MethodName) ({ cls := "BuyersArmModel", name := "fairest", desc := "()I" } : Jvm.MethodName)) ∈ gtb := gtb_of (tb5 _ (List.mem_of_getElem? (i := 42) rfl)) rfl
theorem w5_43 : (Jvm.Cond.code ({ cls := "BuyersArmModel", name := "fairest", desc := "()I" } : Jvm.MethodName) prog_11_method_50_code (3 : Nat) (Option.some Jvm.ClassFile.FieldType.int)) ∈ gtb := gtb_of (tb5 _ (List.mem_of_getElem? (i := 43) rfl)) rfl
theorem w5_44 : (Jvm.Cond.methodLink "BuyersArmLaw" (127 : Nat) ({ cls := "BuyersArmModel", name := "cut", desc := "(IIZ)I" } : Jvm.MethodName)) ∈ gtb := gtb_of (tb5 _ (List.mem_of_getElem? (i := 44) rfl)) rfl
theorem w5_45 : (Jvm.Cond.instanceMethod ({ cls := "BuyersArmModel", name := "cut", desc := "(IIZ)I" } : Jvm.MethodName)) ∈ gtb := gtb_of (tb5 _ (List.mem_of_getElem? (i := 45) rfl)) rfl
theorem w5_46 : (Jvm.Cond.selects "BuyersArmModel" ({ cls := "BuyersArmModel", name := "cut", desc := "(IIZ)I" } : Jvm.MethodName) ({ cls := "BuyersArmModel", name := "cut", desc := "(IIZ)I" } : Jvm.MethodName)) ∈ gtb := gtb_of (tb5 _ (List.mem_of_getElem? (i := 46) rfl)) rfl
theorem w5_47 : (Jvm.Cond.code ({ cls := "BuyersArmModel", name := "cut", desc := "(IIZ)I" } : Jvm.MethodName) prog_11_method_51_code (8 : Nat) (Option.some Jvm.ClassFile.FieldType.int)) ∈ gtb := gtb_of (tb5 _ (List.mem_of_getElem? (i := 47) rfl)) rfl
theorem w5_48 : (Jvm.Cond.methodLink "BuyersArmLaw" (132 : Nat) ({ cls := "BuyersArmModel", name := "when", desc := "(IIII)I" } : Jvm.MethodName)) ∈ gtb := gtb_of (tb5 _ (List.mem_of_getElem? (i := 48) rfl)) rfl
theorem w5_49 : (Jvm.Cond.instanceMethod ({ cls := "BuyersArmModel", name := "when", desc := "(IIII)I" } : Jvm.MethodName)) ∈ gtb := gtb_of (tb5 _ (List.mem_of_getElem? (i := 49) rfl)) rfl
theorem w5_50 : (Jvm.Cond.selects "BuyersArmModel" ({ cls := "BuyersArmModel", name := "when", desc := "(IIII)I" } : Jvm.MethodName) ({ cls := "BuyersArmModel", name := "when", desc := "(IIII)I" } : Jvm.MethodName)) ∈ gtb := gtb_of (tb5 _ (List.mem_of_getElem? (i := 50) rfl)) rfl
theorem w5_51 : (Jvm.Cond.code ({ cls := "BuyersArmModel", name := "when", desc := "(IIII)I" } : Jvm.MethodName) prog_11_method_52_code (11 : Nat) (Option.some Jvm.ClassFile.FieldType.int)) ∈ gtb := gtb_of (tb5 _ (List.mem_of_getElem? (i := 51) rfl)) rfl
theorem w5_52 : (Jvm.Cond.methodLink "BuyersArmLaw" (136 : Nat) ({ cls := "BuyersArmModel", name := "held", desc := "(IIIII)I" } : Jvm.MethodName)) ∈ gtb := gtb_of (tb5 _ (List.mem_of_getElem? (i := 52) rfl)) rfl
theorem w5_53 : (Jvm.Cond.instanceMethod ({ cls := "BuyersArmModel", name := "held", desc := "(IIIII)I" } : Jvm.MethodName)) ∈ gtb := gtb_of (tb5 _ (List.mem_of_getElem? (i := 53) rfl)) rfl
theorem w5_54 : (Jvm.Cond.selects "BuyersArmModel" ({ cls := "BuyersArmModel", name := "held", desc := "(IIIII)I" } : Jvm.MethodName) ({ cls := "BuyersArmModel", name := "held", desc := "(IIIII)I" } : Jvm.MethodName)) ∈ gtb := gtb_of (tb5 _ (List.mem_of_getElem? (i := 54) rfl)) rfl
theorem w5_55 : (Jvm.Cond.code ({ cls := "BuyersArmModel", name := "held", desc := "(IIIII)I" } : Jvm.MethodName) prog_11_method_53_code (6 : Nat) (Option.some Jvm.ClassFile.FieldType.int)) ∈ gtb := gtb_of (tb5 _ (List.mem_of_getElem? (i := 55) rfl)) rfl
theorem w5_56 : (Jvm.Cond.methodLink "BuyersArmLaw" (140 : Nat) ({ cls := "BuyersArmModel", name := "unheld", desc := "()I" } : Jvm.MethodName)) ∈ gtb := gtb_of (tb5 _ (List.mem_of_getElem? (i := 56) rfl)) rfl
theorem w5_57 : (Jvm.Cond.instanceMethod ({ cls := "BuyersArmModel", name := "unheld", desc := "()I" } : Jvm.MethodName)) ∈ gtb := gtb_of (tb5 _ (List.mem_of_getElem? (i := 57) rfl)) rfl
theorem w5_58 : (Jvm.Cond.selects "BuyersArmModel" ({ cls := "BuyersArmModel", name := "unheld", desc := "()I" } : Jvm.MethodName) ({ cls := "BuyersArmModel", name := "unheld", desc := "()I" } : Jvm.MethodName)) ∈ gtb := gtb_of (tb5 _ (List.mem_of_getElem? (i := 58) rfl)) rfl
theorem w5_59 : (Jvm.Cond.code ({ cls := "BuyersArmModel", name := "unheld", desc := "()I" } : Jvm.MethodName) prog_11_method_54_code (2 : Nat) (Option.some Jvm.ClassFile.FieldType.int)) ∈ gtb := gtb_of (tb5 _ (List.mem_of_getElem? (i := 59) rfl)) rfl
theorem w5_60 : (Jvm.Cond.methodLink "BuyersArmLaw" (144 : Nat) ({ cls := "BuyersArmModel", name := "mayBe", desc := "()I" } : Jvm.MethodName)) ∈ gtb := gtb_of (tb5 _ (List.mem_of_getElem? (i := 60) rfl)) rfl
theorem w5_61 : (Jvm.Cond.instanceMethod ({ cls := "BuyersArmModel", name := "mayBe", desc := "()I" } : Jvm.MethodName)) ∈ gtb := gtb_of (tb5 _ (List.mem_of_getElem? (i := 61) rfl)) rfl
theorem w5_62 : (Jvm.Cond.selects "BuyersArmModel" ({ cls := "BuyersArmModel", name := "mayBe", desc := "()I" } : Jvm.MethodName) ({ cls := "BuyersArmModel", name := "mayBe", desc := "()I" } : Jvm.MethodName)) ∈ gtb := gtb_of (tb5 _ (List.mem_of_getElem? (i := 62) rfl)) rfl
theorem w5_63 : (Jvm.Cond.code ({ cls := "BuyersArmModel", name := "mayBe", desc := "()I" } : Jvm.MethodName) prog_11_method_58_code (1 : Nat) (Option.some Jvm.ClassFile.FieldType.int)) ∈ gtb := gtb_of (tb5 _ (List.mem_of_getElem? (i := 63) rfl)) rfl
theorem w5_64 : (Jvm.Cond.methodLink "BuyersArmModel" (269 : Nat) ({ cls := "BuyersArmModel", name := "layRows", desc := "(I)I" } : Jvm.MethodName)) ∈ gtb := gtb_of (tb5 _ (List.mem_of_getElem? (i := 64) rfl)) rfl
theorem w5_66 : (Jvm.Cond.instanceMethod ({ cls := "BuyersArmModel", name := "layRows", desc := "(I)I" } : Jvm.MethodName)) ∈ gtb := gtb_of (tb5 _ (List.mem_of_getElem? (i := 66) rfl)) rfl
theorem w5_67 : (Jvm.Cond.code ({ cls := "BuyersArmModel", name := "layRows", desc := "(I)I" } : Jvm.MethodName) prog_11_method_57_code (5 : Nat) (Option.some Jvm.ClassFile.FieldType.int)) ∈ gtb := gtb_of (tb5 _ (List.mem_of_getElem? (i := 67) rfl)) rfl
theorem w5_68 : (Jvm.Cond.methodLink "BuyersArmModel" (266 : Nat) ({ cls := "BuyersArmModel", name := "fits", desc := "(I)Z" } : Jvm.MethodName)) ∈ gtb := gtb_of (tb5 _ (List.mem_of_getElem? (i := 68) rfl)) rfl
theorem w5_70 : (Jvm.Cond.instanceMethod ({ cls := "BuyersArmModel", name := "fits", desc := "(I)Z" } : Jvm.MethodName)) ∈ gtb := gtb_of (tb5 _ (List.mem_of_getElem? (i := 70) rfl)) rfl
theorem w5_71 : (Jvm.Cond.code ({ cls := "BuyersArmModel", name := "fits", desc := "(I)Z" } : Jvm.MethodName) prog_11_method_56_code (5 : Nat) (Option.some Jvm.ClassFile.FieldType.boolean)) ∈ gtb := gtb_of (tb5 _ (List.mem_of_getElem? (i := 71) rfl)) rfl
theorem w5_72 : (Jvm.Cond.methodLink "BuyersArmModel" (257 : Nat) ({ cls := "BuyersArmModel", name := "armIn", desc := "(II)I" } : Jvm.MethodName)) ∈ gtb := gtb_of (tb5 _ (List.mem_of_getElem? (i := 72) rfl)) rfl
theorem w5_73 : (Jvm.Cond.static ({ cls := "BuyersArmModel", name := "armIn", desc := "(II)I" } : Jvm.MethodName)) ∈ gtb := gtb_of (tb5 _ (List.mem_of_getElem? (i := 73) rfl)) rfl
theorem w5_74 : (Jvm.Cond.code ({ cls := "BuyersArmModel", name := "armIn", desc := "(II)I" } : Jvm.MethodName) prog_11_method_55_code (2 : Nat) (Option.some Jvm.ClassFile.FieldType.int)) ∈ gtb := gtb_of (tb5 _ (List.mem_of_getElem? (i := 74) rfl)) rfl
theorem w5_75 : (Jvm.Cond.methodLink "BuyersArmLaw" (148 : Nat) ({ cls := "BuyersArmModel", name := "arm", desc := "(IZ)I" } : Jvm.MethodName)) ∈ gtb := gtb_of (tb5 _ (List.mem_of_getElem? (i := 75) rfl)) rfl
theorem w5_76 : (Jvm.Cond.instanceMethod ({ cls := "BuyersArmModel", name := "arm", desc := "(IZ)I" } : Jvm.MethodName)) ∈ gtb := gtb_of (tb5 _ (List.mem_of_getElem? (i := 76) rfl)) rfl
theorem w5_77 : (Jvm.Cond.selects "BuyersArmModel" ({ cls := "BuyersArmModel", name := "arm", desc := "(IZ)I" } : Jvm.MethodName) ({ cls := "BuyersArmModel", name := "arm", desc := "(IZ)I" } : Jvm.MethodName)) ∈ gtb := gtb_of (tb5 _ (List.mem_of_getElem? (i := 77) rfl)) rfl
theorem w5_78 : (Jvm.Cond.code ({ cls := "BuyersArmModel", name := "arm", desc := "(IZ)I" } : Jvm.MethodName) prog_11_method_59_code (3 : Nat) (Option.some Jvm.ClassFile.FieldType.int)) ∈ gtb := gtb_of (tb5 _ (List.mem_of_getElem? (i := 78) rfl)) rfl
theorem w5_79 : (Jvm.Cond.methodLink "BuyersArmLaw" (152 : Nat) ({ cls := "BuyersArmModel", name := "keep", desc := "(I)I" } : Jvm.MethodName)) ∈ gtb := gtb_of (tb5 _ (List.mem_of_getElem? (i := 79) rfl)) rfl
theorem w5_80 : (Jvm.Cond.instanceMethod ({ cls := "BuyersArmModel", name := "keep", desc := "(I)I" } : Jvm.MethodName)) ∈ gtb := gtb_of (tb5 _ (List.mem_of_getElem? (i := 80) rfl)) rfl
theorem w5_81 : (Jvm.Cond.selects "BuyersArmModel" ({ cls := "BuyersArmModel", name := "keep", desc := "(I)I" } : Jvm.MethodName) ({ cls := "BuyersArmModel", name := "keep", desc := "(I)I" } : Jvm.MethodName)) ∈ gtb := gtb_of (tb5 _ (List.mem_of_getElem? (i := 81) rfl)) rfl
theorem w5_82 : (Jvm.Cond.code ({ cls := "BuyersArmModel", name := "keep", desc := "(I)I" } : Jvm.MethodName) prog_11_method_60_code (3 : Nat) (Option.some Jvm.ClassFile.FieldType.int)) ∈ gtb := gtb_of (tb5 _ (List.mem_of_getElem? (i := 82) rfl)) rfl
theorem w5_83 : (Jvm.Cond.methodLink "BuyersArmLaw" (156 : Nat) ({ cls := "BuyersArmModel", name := "again", desc := "(I)I" } : Jvm.MethodName)) ∈ gtb := gtb_of (tb5 _ (List.mem_of_getElem? (i := 83) rfl)) rfl
theorem w5_84 : (Jvm.Cond.instanceMethod ({ cls := "BuyersArmModel", name := "again", desc := "(I)I" } : Jvm.MethodName)) ∈ gtb := gtb_of (tb5 _ (List.mem_of_getElem? (i := 84) rfl)) rfl
theorem w5_85 : (Jvm.Cond.selects "BuyersArmModel" ({ cls := "BuyersArmModel", name := "again", desc := "(I)I" } : Jvm.MethodName) ({ cls := "BuyersArmModel", name := "again", desc := "(I)I" } : Jvm.MethodName)) ∈ gtb := gtb_of (tb5 _ (List.mem_of_getElem? (i := 85) rfl)) rfl
theorem w5_86 : (Jvm.Cond.code ({ cls := "BuyersArmModel", name := "again", desc := "(I)I" } : Jvm.MethodName) prog_11_method_61_code (3 : Nat) (Option.some Jvm.ClassFile.FieldType.int)) ∈ gtb := gtb_of (tb5 _ (List.mem_of_getElem? (i := 86) rfl)) rfl
theorem w5_87 : (Jvm.Cond.methodLink "BuyersArmLaw" (160 : Nat) ({ cls := "BuyersArmModel", name := "count", desc := "(I)I" } : Jvm.MethodName)) ∈ gtb := gtb_of (tb5 _ (List.mem_of_getElem? (i := 87) rfl)) rfl
theorem w5_88 : (Jvm.Cond.instanceMethod ({ cls := "BuyersArmModel", name := "count", desc := "(I)I" } : Jvm.MethodName)) ∈ gtb := gtb_of (tb5 _ (List.mem_of_getElem? (i := 88) rfl)) rfl
theorem w5_89 : (Jvm.Cond.selects "BuyersArmModel" ({ cls := "BuyersArmModel", name := "count", desc := "(I)I" } : Jvm.MethodName) ({ cls := "BuyersArmModel", name := "count", desc := "(I)I" } : Jvm.MethodName)) ∈ gtb := gtb_of (tb5 _ (List.mem_of_getElem? (i := 89) rfl)) rfl
theorem w5_90 : (Jvm.Cond.code ({ cls := "BuyersArmModel", name := "count", desc := "(I)I" } : Jvm.MethodName) prog_11_method_62_code (2 : Nat) (Option.some Jvm.ClassFile.FieldType.int)) ∈ gtb := gtb_of (tb5 _ (List.mem_of_getElem? (i := 90) rfl)) rfl
theorem w5_91 : (Jvm.Cond.constantLong "BuyersArmLaw" (13 : Nat) (4294967295 : Int64)) ∈ gtb := gtb_of (tb5 _ (List.mem_of_getElem? (i := 91) rfl)) rfl
theorem tbp : ∀ w ∈ k2_sels lw_privs, w ∈ lw_tbl := fun _ h => List.mem_append_left _ h
theorem wp_0 : Jvm.Cond.selects "BuyersArm$Reader" ({ cls := "BuyersArm$Reader", name := "takes", desc := "(ILBuyersArm$Told;)Z" } : Jvm.MethodName) ({ cls := "BuyersArm$Reader", name := "takes", desc := "(ILBuyersArm$Told;)Z" } : Jvm.MethodName) ∈ gtb := gtb_of (tbp _ (List.mem_of_getElem? (i := 0) rfl)) rfl
theorem wp_1 : Jvm.Cond.selects "BuyersArm$Reader" ({ cls := "BuyersArm$Reader", name := "opens", desc := "(ILBuyersArm$Told;)Z" } : Jvm.MethodName) ({ cls := "BuyersArm$Reader", name := "opens", desc := "(ILBuyersArm$Told;)Z" } : Jvm.MethodName) ∈ gtb := gtb_of (tbp _ (List.mem_of_getElem? (i := 1) rfl)) rfl
theorem wp_2 : Jvm.Cond.selects "BuyersArm$Reader" ({ cls := "BuyersArm$Reader", name := "takesOfPerson", desc := "(ILBuyersArm$Told;)Z" } : Jvm.MethodName) ({ cls := "BuyersArm$Reader", name := "takesOfPerson", desc := "(ILBuyersArm$Told;)Z" } : Jvm.MethodName) ∈ gtb := gtb_of (tbp _ (List.mem_of_getElem? (i := 2) rfl)) rfl
theorem wp_3 : Jvm.Cond.selects "BuyersArm$Reader" ({ cls := "BuyersArm$Reader", name := "takesOfCounter", desc := "(ILBuyersArm$Told;)Z" } : Jvm.MethodName) ({ cls := "BuyersArm$Reader", name := "takesOfCounter", desc := "(ILBuyersArm$Told;)Z" } : Jvm.MethodName) ∈ gtb := gtb_of (tbp _ (List.mem_of_getElem? (i := 3) rfl)) rfl
theorem wp_4 : Jvm.Cond.selects "BuyersArm$Reader" ({ cls := "BuyersArm$Reader", name := "takesOfBar", desc := "(ILBuyersArm$Told;)Z" } : Jvm.MethodName) ({ cls := "BuyersArm$Reader", name := "takesOfBar", desc := "(ILBuyersArm$Told;)Z" } : Jvm.MethodName) ∈ gtb := gtb_of (tbp _ (List.mem_of_getElem? (i := 4) rfl)) rfl
theorem wp_5 : Jvm.Cond.selects "BuyersArm" ({ cls := "BuyersArm", name := "spentBy", desc := "(I)I" } : Jvm.MethodName) ({ cls := "BuyersArm", name := "spentBy", desc := "(I)I" } : Jvm.MethodName) ∈ gtb := gtb_of (tbp _ (List.mem_of_getElem? (i := 5) rfl)) rfl
theorem wp_6 : Jvm.Cond.selects "BuyersArm" ({ cls := "BuyersArm", name := "gotBy", desc := "(I)I" } : Jvm.MethodName) ({ cls := "BuyersArm", name := "gotBy", desc := "(I)I" } : Jvm.MethodName) ∈ gtb := gtb_of (tbp _ (List.mem_of_getElem? (i := 6) rfl)) rfl
theorem wp_7 : Jvm.Cond.selects "BuyersArm$Want" ({ cls := "BuyersArm$Want", name := "fill", desc := "(IIII)V" } : Jvm.MethodName) ({ cls := "BuyersArm$Want", name := "fill", desc := "(IIII)V" } : Jvm.MethodName) ∈ gtb := gtb_of (tbp _ (List.mem_of_getElem? (i := 7) rfl)) rfl
theorem wp_8 : Jvm.Cond.selects "BuyersArm$Exchanges" ({ cls := "BuyersArm$Exchanges", name := "follows", desc := "(II)Z" } : Jvm.MethodName) ({ cls := "BuyersArm$Exchanges", name := "follows", desc := "(II)Z" } : Jvm.MethodName) ∈ gtb := gtb_of (tbp _ (List.mem_of_getElem? (i := 8) rfl)) rfl
theorem wp_9 : Jvm.Cond.selects "BuyersArm$Exchanges" ({ cls := "BuyersArm$Exchanges", name := "offer", desc := "(IIIII)V" } : Jvm.MethodName) ({ cls := "BuyersArm$Exchanges", name := "offer", desc := "(IIIII)V" } : Jvm.MethodName) ∈ gtb := gtb_of (tbp _ (List.mem_of_getElem? (i := 9) rfl)) rfl
theorem wp_10 : Jvm.Cond.selects "BuyersArm$Exchanges" ({ cls := "BuyersArm$Exchanges", name := "got", desc := "(II)J" } : Jvm.MethodName) ({ cls := "BuyersArm$Exchanges", name := "got", desc := "(II)J" } : Jvm.MethodName) ∈ gtb := gtb_of (tbp _ (List.mem_of_getElem? (i := 10) rfl)) rfl
theorem wp_11 : Jvm.Cond.selects "BuyersArm$Exchanges" ({ cls := "BuyersArm$Exchanges", name := "paid", desc := "(I)J" } : Jvm.MethodName) ({ cls := "BuyersArm$Exchanges", name := "paid", desc := "(I)J" } : Jvm.MethodName) ∈ gtb := gtb_of (tbp _ (List.mem_of_getElem? (i := 11) rfl)) rfl
theorem wp_12 : Jvm.Cond.selects "BuyersArm$Exchanges" ({ cls := "BuyersArm$Exchanges", name := "seekThird", desc := "(III)V" } : Jvm.MethodName) ({ cls := "BuyersArm$Exchanges", name := "seekThird", desc := "(III)V" } : Jvm.MethodName) ∈ gtb := gtb_of (tbp _ (List.mem_of_getElem? (i := 12) rfl)) rfl
theorem wp_13 : Jvm.Cond.selects "BuyersArm" ({ cls := "BuyersArm", name := "broughtBy", desc := "(III)I" } : Jvm.MethodName) ({ cls := "BuyersArm", name := "broughtBy", desc := "(III)I" } : Jvm.MethodName) ∈ gtb := gtb_of (tbp _ (List.mem_of_getElem? (i := 13) rfl)) rfl
theorem wp_14 : Jvm.Cond.selects "BuyersArm" ({ cls := "BuyersArm", name := "losersBy", desc := "(I)I" } : Jvm.MethodName) ({ cls := "BuyersArm", name := "losersBy", desc := "(I)I" } : Jvm.MethodName) ∈ gtb := gtb_of (tbp _ (List.mem_of_getElem? (i := 14) rfl)) rfl
theorem wp_15 : Jvm.Cond.selects "BuyersArm$Piece" ({ cls := "BuyersArm$Piece", name := "fewestTo", desc := "(II[I)I" } : Jvm.MethodName) ({ cls := "BuyersArm$Piece", name := "fewestTo", desc := "(II[I)I" } : Jvm.MethodName) ∈ gtb := gtb_of (tbp _ (List.mem_of_getElem? (i := 15) rfl)) rfl
theorem wp_16 : Jvm.Cond.selects "BuyersArmModel" ({ cls := "BuyersArmModel", name := "readMarket", desc := "()I" } : Jvm.MethodName) ({ cls := "BuyersArmModel", name := "readMarket", desc := "()I" } : Jvm.MethodName) ∈ gtb := gtb_of (tbp _ (List.mem_of_getElem? (i := 16) rfl)) rfl
theorem wp_17 : Jvm.Cond.selects "BuyersArmModel" ({ cls := "BuyersArmModel", name := "readPart", desc := "()Z" } : Jvm.MethodName) ({ cls := "BuyersArmModel", name := "readPart", desc := "()Z" } : Jvm.MethodName) ∈ gtb := gtb_of (tbp _ (List.mem_of_getElem? (i := 17) rfl)) rfl
theorem wp_18 : Jvm.Cond.selects "BuyersArmModel" ({ cls := "BuyersArmModel", name := "readPerson", desc := "()Z" } : Jvm.MethodName) ({ cls := "BuyersArmModel", name := "readPerson", desc := "()Z" } : Jvm.MethodName) ∈ gtb := gtb_of (tbp _ (List.mem_of_getElem? (i := 18) rfl)) rfl
theorem wp_19 : Jvm.Cond.selects "BuyersArmModel" ({ cls := "BuyersArmModel", name := "two", desc := "(I)I" } : Jvm.MethodName) ({ cls := "BuyersArmModel", name := "two", desc := "(I)I" } : Jvm.MethodName) ∈ gtb := gtb_of (tbp _ (List.mem_of_getElem? (i := 19) rfl)) rfl
theorem wp_20 : Jvm.Cond.selects "BuyersArmModel" ({ cls := "BuyersArmModel", name := "figure", desc := "(I)I" } : Jvm.MethodName) ({ cls := "BuyersArmModel", name := "figure", desc := "(I)I" } : Jvm.MethodName) ∈ gtb := gtb_of (tbp _ (List.mem_of_getElem? (i := 20) rfl)) rfl
theorem wp_21 : Jvm.Cond.selects "BuyersArmModel" ({ cls := "BuyersArmModel", name := "readCounter", desc := "()Z" } : Jvm.MethodName) ({ cls := "BuyersArmModel", name := "readCounter", desc := "()Z" } : Jvm.MethodName) ∈ gtb := gtb_of (tbp _ (List.mem_of_getElem? (i := 21) rfl)) rfl
theorem wp_22 : Jvm.Cond.selects "BuyersArmModel" ({ cls := "BuyersArmModel", name := "hasAny", desc := "()Z" } : Jvm.MethodName) ({ cls := "BuyersArmModel", name := "hasAny", desc := "()Z" } : Jvm.MethodName) ∈ gtb := gtb_of (tbp _ (List.mem_of_getElem? (i := 22) rfl)) rfl
theorem wp_23 : Jvm.Cond.selects "BuyersArmModel" ({ cls := "BuyersArmModel", name := "hasLeft", desc := "(I)Z" } : Jvm.MethodName) ({ cls := "BuyersArmModel", name := "hasLeft", desc := "(I)Z" } : Jvm.MethodName) ∈ gtb := gtb_of (tbp _ (List.mem_of_getElem? (i := 23) rfl)) rfl
theorem wp_24 : Jvm.Cond.selects "BuyersArmModel" ({ cls := "BuyersArmModel", name := "readBar", desc := "()Z" } : Jvm.MethodName) ({ cls := "BuyersArmModel", name := "readBar", desc := "()Z" } : Jvm.MethodName) ∈ gtb := gtb_of (tbp _ (List.mem_of_getElem? (i := 24) rfl)) rfl
theorem wp_25 : Jvm.Cond.selects "BuyersArmModel" ({ cls := "BuyersArmModel", name := "noOne", desc := "(I)Z" } : Jvm.MethodName) ({ cls := "BuyersArmModel", name := "noOne", desc := "(I)Z" } : Jvm.MethodName) ∈ gtb := gtb_of (tbp _ (List.mem_of_getElem? (i := 25) rfl)) rfl
theorem wp_26 : Jvm.Cond.selects "BuyersArmModel" ({ cls := "BuyersArmModel", name := "sumOf", desc := "(III)I" } : Jvm.MethodName) ({ cls := "BuyersArmModel", name := "sumOf", desc := "(III)I" } : Jvm.MethodName) ∈ gtb := gtb_of (tbp _ (List.mem_of_getElem? (i := 26) rfl)) rfl
theorem wp_27 : Jvm.Cond.selects "BuyersArmModel" ({ cls := "BuyersArmModel", name := "noCounter", desc := "(I)Z" } : Jvm.MethodName) ({ cls := "BuyersArmModel", name := "noCounter", desc := "(I)Z" } : Jvm.MethodName) ∈ gtb := gtb_of (tbp _ (List.mem_of_getElem? (i := 27) rfl)) rfl
theorem wp_28 : Jvm.Cond.selects "BuyersArmModel" ({ cls := "BuyersArmModel", name := "findCheapest", desc := "(II)I" } : Jvm.MethodName) ({ cls := "BuyersArmModel", name := "findCheapest", desc := "(II)I" } : Jvm.MethodName) ∈ gtb := gtb_of (tbp _ (List.mem_of_getElem? (i := 28) rfl)) rfl
theorem wp_29 : Jvm.Cond.selects "BuyersArmModel" ({ cls := "BuyersArmModel", name := "layFew", desc := "(II)V" } : Jvm.MethodName) ({ cls := "BuyersArmModel", name := "layFew", desc := "(II)V" } : Jvm.MethodName) ∈ gtb := gtb_of (tbp _ (List.mem_of_getElem? (i := 29) rfl)) rfl
theorem wp_30 : Jvm.Cond.selects "BuyersArmModel" ({ cls := "BuyersArmModel", name := "layWay", desc := "(IIII)V" } : Jvm.MethodName) ({ cls := "BuyersArmModel", name := "layWay", desc := "(IIII)V" } : Jvm.MethodName) ∈ gtb := gtb_of (tbp _ (List.mem_of_getElem? (i := 30) rfl)) rfl
theorem wp_31 : Jvm.Cond.selects "BuyersArmModel" ({ cls := "BuyersArmModel", name := "can", desc := "(IIIII)Z" } : Jvm.MethodName) ({ cls := "BuyersArmModel", name := "can", desc := "(IIIII)Z" } : Jvm.MethodName) ∈ gtb := gtb_of (tbp _ (List.mem_of_getElem? (i := 31) rfl)) rfl
theorem wp_32 : Jvm.Cond.selects "BuyersArmModel" ({ cls := "BuyersArmModel", name := "findRing", desc := "(I)Z" } : Jvm.MethodName) ({ cls := "BuyersArmModel", name := "findRing", desc := "(I)Z" } : Jvm.MethodName) ∈ gtb := gtb_of (tbp _ (List.mem_of_getElem? (i := 32) rfl)) rfl
theorem wp_33 : Jvm.Cond.selects "BuyersArmModel" ({ cls := "BuyersArmModel", name := "isRing", desc := "(I)Z" } : Jvm.MethodName) ({ cls := "BuyersArmModel", name := "isRing", desc := "(I)Z" } : Jvm.MethodName) ∈ gtb := gtb_of (tbp _ (List.mem_of_getElem? (i := 33) rfl)) rfl
theorem wp_34 : Jvm.Cond.selects "BuyersArmModel" ({ cls := "BuyersArmModel", name := "earnedBy", desc := "(III)I" } : Jvm.MethodName) ({ cls := "BuyersArmModel", name := "earnedBy", desc := "(III)I" } : Jvm.MethodName) ∈ gtb := gtb_of (tbp _ (List.mem_of_getElem? (i := 34) rfl)) rfl
theorem wp_35 : Jvm.Cond.selects "BuyersArmModel" ({ cls := "BuyersArmModel", name := "losersBy", desc := "(I)I" } : Jvm.MethodName) ({ cls := "BuyersArmModel", name := "losersBy", desc := "(I)I" } : Jvm.MethodName) ∈ gtb := gtb_of (tbp _ (List.mem_of_getElem? (i := 35) rfl)) rfl
theorem wp_36 : Jvm.Cond.selects "BuyersArmModel" ({ cls := "BuyersArmModel", name := "layRows", desc := "(I)I" } : Jvm.MethodName) ({ cls := "BuyersArmModel", name := "layRows", desc := "(I)I" } : Jvm.MethodName) ∈ gtb := gtb_of (tbp _ (List.mem_of_getElem? (i := 36) rfl)) rfl
theorem wp_37 : Jvm.Cond.selects "BuyersArmModel" ({ cls := "BuyersArmModel", name := "fits", desc := "(I)Z" } : Jvm.MethodName) ({ cls := "BuyersArmModel", name := "fits", desc := "(I)Z" } : Jvm.MethodName) ∈ gtb := gtb_of (tbp _ (List.mem_of_getElem? (i := 37) rfl)) rfl
theorem gtb_good : GoodIn gtb gtb := fun w h => ⟨h, good_of_word (List.mem_filter.mp h).2⟩
theorem gtb_goodL : GoodIn lw_tbl gtb := fun w h => ⟨(List.mem_filter.mp h).1, good_of_word (List.mem_filter.mp h).2⟩
set_option maxRecDepth 20000 in
theorem inlX0 : ∀ w ∈ wsX00, w ∈ lw_tbl := fun w h => (goodIn_r wsX00 [244, 246, 248, 250, 252, 254, 256, 258, 260, 262] (by decide +kernel) (by decide +kernel) w h).1
theorem inX0 : ∀ w ∈ wsX00, w ∈ gtb := fun w h => gtb_of (inlX0 w h) (List.all_eq_true.mp (show wsX00.all goodWord = true by decide +kernel) w h)
set_option maxRecDepth 20000 in
theorem inlX1 : ∀ w ∈ wsX10, w ∈ lw_tbl := fun w h => (goodIn_r wsX10 [295, 297, 299, 301] (by decide +kernel) (by decide +kernel) w h).1
theorem inX1 : ∀ w ∈ wsX10, w ∈ gtb := fun w h => gtb_of (inlX1 w h) (List.all_eq_true.mp (show wsX10.all goodWord = true by decide +kernel) w h)
set_option maxRecDepth 20000 in
theorem inlX2 : ∀ w ∈ wsX20, w ∈ lw_tbl := fun w h => (goodIn_r wsX20 [276, 278, 280] (by decide +kernel) (by decide +kernel) w h).1
theorem inX2 : ∀ w ∈ wsX20, w ∈ gtb := fun w h => gtb_of (inlX2 w h) (List.all_eq_true.mp (show wsX20.all goodWord = true by decide +kernel) w h)
set_option maxRecDepth 20000 in
theorem inlX3 : ∀ w ∈ wsX30, w ∈ lw_tbl := fun w h => (goodIn_r wsX30 [88, 90, 92, 94] (by decide +kernel) (by decide +kernel) w h).1
theorem inX3 : ∀ w ∈ wsX30, w ∈ gtb := fun w h => gtb_of (inlX3 w h) (List.all_eq_true.mp (show wsX30.all goodWord = true by decide +kernel) w h)
set_option maxRecDepth 20000 in
theorem inlX4 : ∀ w ∈ wsX40, w ∈ lw_tbl := fun w h => (goodIn_r wsX40 [72, 74] (by decide +kernel) (by decide +kernel) w h).1
theorem inX4 : ∀ w ∈ wsX40, w ∈ gtb := fun w h => gtb_of (inlX4 w h) (List.all_eq_true.mp (show wsX40.all goodWord = true by decide +kernel) w h)
set_option maxRecDepth 20000 in
theorem inlX5 : ∀ w ∈ wsX50, w ∈ lw_tbl := fun w h => (goodIn_r wsX50 [178, 180, 182, 184, 186, 188, 190, 192, 194] (by decide +kernel) (by decide +kernel) w h).1
theorem inX5 : ∀ w ∈ wsX50, w ∈ gtb := fun w h => gtb_of (inlX5 w h) (List.all_eq_true.mp (show wsX50.all goodWord = true by decide +kernel) w h)
set_option maxRecDepth 20000 in
theorem inlX6 : ∀ w ∈ wsX60, w ∈ lw_tbl := fun w h => (goodIn_r wsX60 [132, 134, 136, 138, 140, 142, 144, 146, 148, 150] (by decide +kernel) (by decide +kernel) w h).1
theorem inX6 : ∀ w ∈ wsX60, w ∈ gtb := fun w h => gtb_of (inlX6 w h) (List.all_eq_true.mp (show wsX60.all goodWord = true by decide +kernel) w h)
set_option maxRecDepth 20000 in
theorem inlX7 : ∀ w ∈ wsX70, w ∈ lw_tbl := fun w h => (goodIn_r wsX70 [212, 214, 216, 218, 220] (by decide +kernel) (by decide +kernel) w h).1
theorem inX7 : ∀ w ∈ wsX70, w ∈ gtb := fun w h => gtb_of (inlX7 w h) (List.all_eq_true.mp (show wsX70.all goodWord = true by decide +kernel) w h)
set_option maxRecDepth 20000 in
theorem inlX8 : ∀ w ∈ wsX80, w ∈ lw_tbl := fun w h => (goodIn_r wsX80 [314, 316, 318, 320, 322, 324, 326, 328, 330, 332] (by decide +kernel) (by decide +kernel) w h).1
theorem inX8 : ∀ w ∈ wsX80, w ∈ gtb := fun w h => gtb_of (inlX8 w h) (List.all_eq_true.mp (show wsX80.all goodWord = true by decide +kernel) w h)
set_option maxRecDepth 20000 in
theorem inlX9 : ∀ w ∈ wsX90, w ∈ lw_tbl := fun w h => (goodIn_r wsX90 [740, 742, 744, 746, 748, 750, 752, 754, 756, 758, 760, 762, 764, 766, 768, 770, 772, 774, 776, 778, 780, 782, 784, 786, 788, 790, 792, 794, 796, 798, 800, 802, 804, 806, 808, 810, 812, 814, 816, 818, 820, 822, 824, 826, 828, 830, 832, 834, 836, 838] (by decide +kernel) (by decide +kernel) w h).1
theorem inX9 : ∀ w ∈ wsX90, w ∈ gtb := fun w h => gtb_of (inlX9 w h) (List.all_eq_true.mp (show wsX90.all goodWord = true by decide +kernel) w h)
end
section
theorem dX0_init_0 : decode cX0_init 0 = .ok (.aload_n 0, 1) := by decide +kernel
theorem dX0_init_1 : decode cX0_init 1 = .ok (.invokespecial 3, 3) := by decide +kernel
theorem dX0_init_4 : decode cX0_init 4 = .ok (.aload_n 0, 1) := by decide +kernel
theorem dX0_init_5 : decode cX0_init 5 = .ok (.bipush 8, 2) := by decide +kernel
theorem dX0_init_7 : decode cX0_init 7 = .ok (.newarray .int, 2) := by decide +kernel
theorem dX0_init_9 : decode cX0_init 9 = .ok (.putfield 9, 3) := by decide +kernel
theorem dX0_init_12 : decode cX0_init 12 = .ok (.aload_n 0, 1) := by decide +kernel
theorem dX0_init_13 : decode cX0_init 13 = .ok (.bipush 8, 2) := by decide +kernel
theorem dX0_init_15 : decode cX0_init 15 = .ok (.newarray .int, 2) := by decide +kernel
theorem dX0_init_17 : decode cX0_init 17 = .ok (.putfield 15, 3) := by decide +kernel
theorem dX0_init_20 : decode cX0_init 20 = .ok (.aload_n 0, 1) := by decide +kernel
theorem dX0_init_21 : decode cX0_init 21 = .ok (.bipush 8, 2) := by decide +kernel
theorem dX0_init_23 : decode cX0_init 23 = .ok (.newarray .int, 2) := by decide +kernel
theorem dX0_init_25 : decode cX0_init 25 = .ok (.putfield 18, 3) := by decide +kernel
theorem dX0_init_28 : decode cX0_init 28 = .ok (.aload_n 0, 1) := by decide +kernel
theorem dX0_init_29 : decode cX0_init 29 = .ok (.bipush 8, 2) := by decide +kernel
theorem dX0_init_31 : decode cX0_init 31 = .ok (.newarray .int, 2) := by decide +kernel
theorem dX0_init_33 : decode cX0_init 33 = .ok (.putfield 21, 3) := by decide +kernel
theorem dX0_init_36 : decode cX0_init 36 = .ok (.aload_n 0, 1) := by decide +kernel
theorem dX0_init_37 : decode cX0_init 37 = .ok (.bipush 8, 2) := by decide +kernel
theorem dX0_init_39 : decode cX0_init 39 = .ok (.newarray .int, 2) := by decide +kernel
theorem dX0_init_41 : decode cX0_init 41 = .ok (.putfield 24, 3) := by decide +kernel
theorem dX0_init_44 : decode cX0_init 44 = .ok (.aload_n 0, 1) := by decide +kernel
theorem dX0_init_45 : decode cX0_init 45 = .ok (.iconst 3, 1) := by decide +kernel
theorem dX0_init_46 : decode cX0_init 46 = .ok (.newarray .int, 2) := by decide +kernel
theorem dX0_init_48 : decode cX0_init 48 = .ok (.putfield 27, 3) := by decide +kernel
theorem dX0_init_51 : decode cX0_init 51 = .ok (.return_, 1) := by decide +kernel
theorem dX0_add_0 : decode cX0_add 0 = .ok (.aload_n 0, 1) := by decide +kernel
theorem dX0_add_1 : decode cX0_add 1 = .ok (.getfield 9, 3) := by decide +kernel
theorem dX0_add_4 : decode cX0_add 4 = .ok (.aload_n 0, 1) := by decide +kernel
theorem dX0_add_5 : decode cX0_add 5 = .ok (.getfield 30, 3) := by decide +kernel
theorem dX0_add_8 : decode cX0_add 8 = .ok (.iload_n 1, 1) := by decide +kernel
theorem dX0_add_9 : decode cX0_add 9 = .ok (.iastore, 1) := by decide +kernel
theorem dX0_add_10 : decode cX0_add 10 = .ok (.aload_n 0, 1) := by decide +kernel
theorem dX0_add_11 : decode cX0_add 11 = .ok (.getfield 15, 3) := by decide +kernel
theorem dX0_add_14 : decode cX0_add 14 = .ok (.aload_n 0, 1) := by decide +kernel
theorem dX0_add_15 : decode cX0_add 15 = .ok (.getfield 30, 3) := by decide +kernel
theorem dX0_add_18 : decode cX0_add 18 = .ok (.iload_n 2, 1) := by decide +kernel
theorem dX0_add_19 : decode cX0_add 19 = .ok (.iastore, 1) := by decide +kernel
theorem dX0_add_20 : decode cX0_add 20 = .ok (.aload_n 0, 1) := by decide +kernel
theorem dX0_add_21 : decode cX0_add 21 = .ok (.getfield 18, 3) := by decide +kernel
theorem dX0_add_24 : decode cX0_add 24 = .ok (.aload_n 0, 1) := by decide +kernel
theorem dX0_add_25 : decode cX0_add 25 = .ok (.getfield 30, 3) := by decide +kernel
theorem dX0_add_28 : decode cX0_add 28 = .ok (.iload_n 3, 1) := by decide +kernel
theorem dX0_add_29 : decode cX0_add 29 = .ok (.iastore, 1) := by decide +kernel
theorem dX0_add_30 : decode cX0_add 30 = .ok (.aload_n 0, 1) := by decide +kernel
theorem dX0_add_31 : decode cX0_add 31 = .ok (.getfield 21, 3) := by decide +kernel
theorem dX0_add_34 : decode cX0_add 34 = .ok (.aload_n 0, 1) := by decide +kernel
theorem dX0_add_35 : decode cX0_add 35 = .ok (.getfield 30, 3) := by decide +kernel
theorem dX0_add_38 : decode cX0_add 38 = .ok (.iload 4, 2) := by decide +kernel
theorem dX0_add_40 : decode cX0_add 40 = .ok (.iastore, 1) := by decide +kernel
theorem dX0_add_41 : decode cX0_add 41 = .ok (.aload_n 0, 1) := by decide +kernel
theorem dX0_add_42 : decode cX0_add 42 = .ok (.getfield 24, 3) := by decide +kernel
theorem dX0_add_45 : decode cX0_add 45 = .ok (.aload_n 0, 1) := by decide +kernel
theorem dX0_add_46 : decode cX0_add 46 = .ok (.getfield 30, 3) := by decide +kernel
theorem dX0_add_49 : decode cX0_add 49 = .ok (.iload 5, 2) := by decide +kernel
theorem dX0_add_51 : decode cX0_add 51 = .ok (.iastore, 1) := by decide +kernel
theorem dX0_add_52 : decode cX0_add 52 = .ok (.aload_n 0, 1) := by decide +kernel
theorem dX0_add_53 : decode cX0_add 53 = .ok (.dup, 1) := by decide +kernel
theorem dX0_add_54 : decode cX0_add 54 = .ok (.getfield 30, 3) := by decide +kernel
theorem dX0_add_57 : decode cX0_add 57 = .ok (.iconst 1, 1) := by decide +kernel
theorem dX0_add_58 : decode cX0_add 58 = .ok (.iadd, 1) := by decide +kernel
theorem dX0_add_59 : decode cX0_add 59 = .ok (.putfield 30, 3) := by decide +kernel
theorem dX0_add_62 : decode cX0_add 62 = .ok (.return_, 1) := by decide +kernel
theorem dX0_seekBest_0 : decode cX0_seekBest 0 = .ok (.aload_n 0, 1) := by decide +kernel
theorem dX0_seekBest_1 : decode cX0_seekBest 1 = .ok (.iconst 0, 1) := by decide +kernel
theorem dX0_seekBest_2 : decode cX0_seekBest 2 = .ok (.putfield 34, 3) := by decide +kernel
theorem dX0_seekBest_5 : decode cX0_seekBest 5 = .ok (.aload_n 0, 1) := by decide +kernel
theorem dX0_seekBest_6 : decode cX0_seekBest 6 = .ok (.lconst 0, 1) := by decide +kernel
theorem dX0_seekBest_7 : decode cX0_seekBest 7 = .ok (.putfield 37, 3) := by decide +kernel
theorem dX0_seekBest_10 : decode cX0_seekBest 10 = .ok (.aload_n 0, 1) := by decide +kernel
theorem dX0_seekBest_11 : decode cX0_seekBest 11 = .ok (.lconst 1, 1) := by decide +kernel
theorem dX0_seekBest_12 : decode cX0_seekBest 12 = .ok (.putfield 41, 3) := by decide +kernel
theorem dX0_seekBest_15 : decode cX0_seekBest 15 = .ok (.iconst 0, 1) := by decide +kernel
theorem dX0_seekBest_16 : decode cX0_seekBest 16 = .ok (.istore_n 2, 1) := by decide +kernel
theorem dX0_seekBest_17 : decode cX0_seekBest 17 = .ok (.iload_n 2, 1) := by decide +kernel
theorem dX0_seekBest_18 : decode cX0_seekBest 18 = .ok (.aload_n 0, 1) := by decide +kernel
theorem dX0_seekBest_19 : decode cX0_seekBest 19 = .ok (.getfield 30, 3) := by decide +kernel
theorem dX0_seekBest_22 : decode cX0_seekBest 22 = .ok (.if_icmp .ge 52, 3) := by decide +kernel
theorem dX0_seekBest_25 : decode cX0_seekBest 25 = .ok (.iconst 0, 1) := by decide +kernel
theorem dX0_seekBest_26 : decode cX0_seekBest 26 = .ok (.istore_n 3, 1) := by decide +kernel
theorem dX0_seekBest_27 : decode cX0_seekBest 27 = .ok (.iload_n 3, 1) := by decide +kernel
theorem dX0_seekBest_28 : decode cX0_seekBest 28 = .ok (.aload_n 0, 1) := by decide +kernel
theorem dX0_seekBest_29 : decode cX0_seekBest 29 = .ok (.getfield 30, 3) := by decide +kernel
theorem dX0_seekBest_32 : decode cX0_seekBest 32 = .ok (.if_icmp .ge 36, 3) := by decide +kernel
theorem dX0_seekBest_35 : decode cX0_seekBest 35 = .ok (.aload_n 0, 1) := by decide +kernel
theorem dX0_seekBest_36 : decode cX0_seekBest 36 = .ok (.iload_n 2, 1) := by decide +kernel
theorem dX0_seekBest_37 : decode cX0_seekBest 37 = .ok (.iload_n 3, 1) := by decide +kernel
theorem dX0_seekBest_38 : decode cX0_seekBest 38 = .ok (.invokevirtual 44, 3) := by decide +kernel
theorem dX0_seekBest_41 : decode cX0_seekBest 41 = .ok (.ifCond .eq 21, 3) := by decide +kernel
theorem dX0_seekBest_44 : decode cX0_seekBest 44 = .ok (.aload_n 0, 1) := by decide +kernel
theorem dX0_seekBest_45 : decode cX0_seekBest 45 = .ok (.iload_n 3, 1) := by decide +kernel
theorem dX0_seekBest_46 : decode cX0_seekBest 46 = .ok (.iload_n 2, 1) := by decide +kernel
theorem dX0_seekBest_47 : decode cX0_seekBest 47 = .ok (.invokevirtual 44, 3) := by decide +kernel
theorem dX0_seekBest_50 : decode cX0_seekBest 50 = .ok (.ifCond .eq 12, 3) := by decide +kernel
theorem dX0_seekBest_53 : decode cX0_seekBest 53 = .ok (.aload_n 0, 1) := by decide +kernel
theorem dX0_seekBest_54 : decode cX0_seekBest 54 = .ok (.iconst 2, 1) := by decide +kernel
theorem dX0_seekBest_55 : decode cX0_seekBest 55 = .ok (.iload_n 2, 1) := by decide +kernel
theorem dX0_seekBest_56 : decode cX0_seekBest 56 = .ok (.iload_n 3, 1) := by decide +kernel
theorem dX0_seekBest_57 : decode cX0_seekBest 57 = .ok (.iload_n 3, 1) := by decide +kernel
theorem dX0_seekBest_58 : decode cX0_seekBest 58 = .ok (.iload_n 1, 1) := by decide +kernel
theorem dX0_seekBest_59 : decode cX0_seekBest 59 = .ok (.invokevirtual 48, 3) := by decide +kernel
theorem dX0_seekBest_62 : decode cX0_seekBest 62 = .ok (.iinc 3 1, 3) := by decide +kernel
theorem dX0_seekBest_65 : decode cX0_seekBest 65 = .ok (.goto (-38), 3) := by decide +kernel
theorem dX0_seekBest_68 : decode cX0_seekBest 68 = .ok (.iinc 2 1, 3) := by decide +kernel
theorem dX0_seekBest_71 : decode cX0_seekBest 71 = .ok (.goto (-54), 3) := by decide +kernel
theorem dX0_seekBest_74 : decode cX0_seekBest 74 = .ok (.iconst 0, 1) := by decide +kernel
theorem dX0_seekBest_75 : decode cX0_seekBest 75 = .ok (.istore_n 2, 1) := by decide +kernel
theorem dX0_seekBest_76 : decode cX0_seekBest 76 = .ok (.iload_n 2, 1) := by decide +kernel
theorem dX0_seekBest_77 : decode cX0_seekBest 77 = .ok (.aload_n 0, 1) := by decide +kernel
theorem dX0_seekBest_78 : decode cX0_seekBest 78 = .ok (.getfield 30, 3) := by decide +kernel
theorem dX0_seekBest_81 : decode cX0_seekBest 81 = .ok (.if_icmp .ge 41, 3) := by decide +kernel
theorem dX0_seekBest_84 : decode cX0_seekBest 84 = .ok (.iconst 0, 1) := by decide +kernel
theorem dX0_seekBest_85 : decode cX0_seekBest 85 = .ok (.istore_n 3, 1) := by decide +kernel
theorem dX0_seekBest_86 : decode cX0_seekBest 86 = .ok (.iload_n 3, 1) := by decide +kernel
theorem dX0_seekBest_87 : decode cX0_seekBest 87 = .ok (.aload_n 0, 1) := by decide +kernel
theorem dX0_seekBest_88 : decode cX0_seekBest 88 = .ok (.getfield 30, 3) := by decide +kernel
theorem dX0_seekBest_91 : decode cX0_seekBest 91 = .ok (.if_icmp .ge 25, 3) := by decide +kernel
theorem dX0_seekBest_94 : decode cX0_seekBest 94 = .ok (.aload_n 0, 1) := by decide +kernel
theorem dX0_seekBest_95 : decode cX0_seekBest 95 = .ok (.iload_n 2, 1) := by decide +kernel
theorem dX0_seekBest_96 : decode cX0_seekBest 96 = .ok (.iload_n 3, 1) := by decide +kernel
theorem dX0_seekBest_97 : decode cX0_seekBest 97 = .ok (.invokevirtual 44, 3) := by decide +kernel
theorem dX0_seekBest_100 : decode cX0_seekBest 100 = .ok (.ifCond .eq 10, 3) := by decide +kernel
theorem dX0_seekBest_103 : decode cX0_seekBest 103 = .ok (.aload_n 0, 1) := by decide +kernel
theorem dX0_seekBest_104 : decode cX0_seekBest 104 = .ok (.iload_n 2, 1) := by decide +kernel
theorem dX0_seekBest_105 : decode cX0_seekBest 105 = .ok (.iload_n 3, 1) := by decide +kernel
theorem dX0_seekBest_106 : decode cX0_seekBest 106 = .ok (.iload_n 1, 1) := by decide +kernel
theorem dX0_seekBest_107 : decode cX0_seekBest 107 = .ok (.invokevirtual 52, 3) := by decide +kernel
theorem dX0_seekBest_110 : decode cX0_seekBest 110 = .ok (.iinc 3 1, 3) := by decide +kernel
theorem dX0_seekBest_113 : decode cX0_seekBest 113 = .ok (.goto (-27), 3) := by decide +kernel
theorem dX0_seekBest_116 : decode cX0_seekBest 116 = .ok (.iinc 2 1, 3) := by decide +kernel
theorem dX0_seekBest_119 : decode cX0_seekBest 119 = .ok (.goto (-43), 3) := by decide +kernel
theorem dX0_seekBest_122 : decode cX0_seekBest 122 = .ok (.return_, 1) := by decide +kernel
theorem dX0_seekThird_0 : decode cX0_seekThird 0 = .ok (.iconst 0, 1) := by decide +kernel
theorem dX0_seekThird_1 : decode cX0_seekThird 1 = .ok (.istore 4, 2) := by decide +kernel
theorem dX0_seekThird_3 : decode cX0_seekThird 3 = .ok (.iload 4, 2) := by decide +kernel
theorem dX0_seekThird_5 : decode cX0_seekThird 5 = .ok (.aload_n 0, 1) := by decide +kernel
theorem dX0_seekThird_6 : decode cX0_seekThird 6 = .ok (.getfield 30, 3) := by decide +kernel
theorem dX0_seekThird_9 : decode cX0_seekThird 9 = .ok (.if_icmp .ge 39, 3) := by decide +kernel
theorem dX0_seekThird_12 : decode cX0_seekThird 12 = .ok (.aload_n 0, 1) := by decide +kernel
theorem dX0_seekThird_13 : decode cX0_seekThird 13 = .ok (.iload_n 2, 1) := by decide +kernel
theorem dX0_seekThird_14 : decode cX0_seekThird 14 = .ok (.iload 4, 2) := by decide +kernel
theorem dX0_seekThird_16 : decode cX0_seekThird 16 = .ok (.invokevirtual 44, 3) := by decide +kernel
theorem dX0_seekThird_19 : decode cX0_seekThird 19 = .ok (.ifCond .eq 23, 3) := by decide +kernel
theorem dX0_seekThird_22 : decode cX0_seekThird 22 = .ok (.aload_n 0, 1) := by decide +kernel
theorem dX0_seekThird_23 : decode cX0_seekThird 23 = .ok (.iload 4, 2) := by decide +kernel
theorem dX0_seekThird_25 : decode cX0_seekThird 25 = .ok (.iload_n 1, 1) := by decide +kernel
theorem dX0_seekThird_26 : decode cX0_seekThird 26 = .ok (.invokevirtual 44, 3) := by decide +kernel
theorem dX0_seekThird_29 : decode cX0_seekThird 29 = .ok (.ifCond .eq 13, 3) := by decide +kernel
theorem dX0_seekThird_32 : decode cX0_seekThird 32 = .ok (.aload_n 0, 1) := by decide +kernel
theorem dX0_seekThird_33 : decode cX0_seekThird 33 = .ok (.iconst 3, 1) := by decide +kernel
theorem dX0_seekThird_34 : decode cX0_seekThird 34 = .ok (.iload_n 1, 1) := by decide +kernel
theorem dX0_seekThird_35 : decode cX0_seekThird 35 = .ok (.iload_n 2, 1) := by decide +kernel
theorem dX0_seekThird_36 : decode cX0_seekThird 36 = .ok (.iload 4, 2) := by decide +kernel
theorem dX0_seekThird_38 : decode cX0_seekThird 38 = .ok (.iload_n 3, 1) := by decide +kernel
theorem dX0_seekThird_39 : decode cX0_seekThird 39 = .ok (.invokevirtual 48, 3) := by decide +kernel
theorem dX0_seekThird_42 : decode cX0_seekThird 42 = .ok (.iinc 4 1, 3) := by decide +kernel
theorem dX0_seekThird_45 : decode cX0_seekThird 45 = .ok (.goto (-42), 3) := by decide +kernel
theorem dX0_seekThird_48 : decode cX0_seekThird 48 = .ok (.return_, 1) := by decide +kernel
theorem dX0_follows_0 : decode cX0_follows 0 = .ok (.aload_n 0, 1) := by decide +kernel
theorem dX0_follows_1 : decode cX0_follows 1 = .ok (.getfield 15, 3) := by decide +kernel
theorem dX0_follows_4 : decode cX0_follows 4 = .ok (.iload_n 1, 1) := by decide +kernel
theorem dX0_follows_5 : decode cX0_follows 5 = .ok (.iaload, 1) := by decide +kernel
theorem dX0_follows_6 : decode cX0_follows 6 = .ok (.aload_n 0, 1) := by decide +kernel
theorem dX0_follows_7 : decode cX0_follows 7 = .ok (.getfield 9, 3) := by decide +kernel
theorem dX0_follows_10 : decode cX0_follows 10 = .ok (.iload_n 2, 1) := by decide +kernel
theorem dX0_follows_11 : decode cX0_follows 11 = .ok (.iaload, 1) := by decide +kernel
theorem dX0_follows_12 : decode cX0_follows 12 = .ok (.if_icmp .ne 7, 3) := by decide +kernel
theorem dX0_follows_15 : decode cX0_follows 15 = .ok (.iconst 1, 1) := by decide +kernel
theorem dX0_follows_16 : decode cX0_follows 16 = .ok (.goto 4, 3) := by decide +kernel
theorem dX0_follows_19 : decode cX0_follows 19 = .ok (.iconst 0, 1) := by decide +kernel
theorem dX0_follows_20 : decode cX0_follows 20 = .ok (.ireturn, 1) := by decide +kernel
theorem dX0_offer_0 : decode cX0_offer 0 = .ok (.aload_n 0, 1) := by decide +kernel
theorem dX0_offer_1 : decode cX0_offer 1 = .ok (.iload_n 2, 1) := by decide +kernel
theorem dX0_offer_2 : decode cX0_offer 2 = .ok (.iload 5, 2) := by decide +kernel
theorem dX0_offer_4 : decode cX0_offer 4 = .ok (.invokevirtual 56, 3) := by decide +kernel
theorem dX0_offer_7 : decode cX0_offer 7 = .ok (.aload_n 0, 1) := by decide +kernel
theorem dX0_offer_8 : decode cX0_offer 8 = .ok (.iload_n 3, 1) := by decide +kernel
theorem dX0_offer_9 : decode cX0_offer 9 = .ok (.iload 5, 2) := by decide +kernel
theorem dX0_offer_11 : decode cX0_offer 11 = .ok (.invokevirtual 56, 3) := by decide +kernel
theorem dX0_offer_14 : decode cX0_offer 14 = .ok (.lmul, 1) := by decide +kernel
theorem dX0_offer_15 : decode cX0_offer 15 = .ok (.lstore 6, 2) := by decide +kernel
theorem dX0_offer_17 : decode cX0_offer 17 = .ok (.aload_n 0, 1) := by decide +kernel
theorem dX0_offer_18 : decode cX0_offer 18 = .ok (.iload_n 2, 1) := by decide +kernel
theorem dX0_offer_19 : decode cX0_offer 19 = .ok (.invokevirtual 60, 3) := by decide +kernel
theorem dX0_offer_22 : decode cX0_offer 22 = .ok (.aload_n 0, 1) := by decide +kernel
theorem dX0_offer_23 : decode cX0_offer 23 = .ok (.iload_n 3, 1) := by decide +kernel
theorem dX0_offer_24 : decode cX0_offer 24 = .ok (.invokevirtual 60, 3) := by decide +kernel
theorem dX0_offer_27 : decode cX0_offer 27 = .ok (.lmul, 1) := by decide +kernel
theorem dX0_offer_28 : decode cX0_offer 28 = .ok (.lstore 8, 2) := by decide +kernel
theorem dX0_offer_30 : decode cX0_offer 30 = .ok (.iload_n 1, 1) := by decide +kernel
theorem dX0_offer_31 : decode cX0_offer 31 = .ok (.iconst 3, 1) := by decide +kernel
theorem dX0_offer_32 : decode cX0_offer 32 = .ok (.if_icmp .ne 27, 3) := by decide +kernel
theorem dX0_offer_35 : decode cX0_offer 35 = .ok (.lload 6, 2) := by decide +kernel
theorem dX0_offer_37 : decode cX0_offer 37 = .ok (.aload_n 0, 1) := by decide +kernel
theorem dX0_offer_38 : decode cX0_offer 38 = .ok (.iload 4, 2) := by decide +kernel
theorem dX0_offer_40 : decode cX0_offer 40 = .ok (.iload 5, 2) := by decide +kernel
theorem dX0_offer_42 : decode cX0_offer 42 = .ok (.invokevirtual 56, 3) := by decide +kernel
theorem dX0_offer_45 : decode cX0_offer 45 = .ok (.lmul, 1) := by decide +kernel
theorem dX0_offer_46 : decode cX0_offer 46 = .ok (.lstore 6, 2) := by decide +kernel
theorem dX0_offer_48 : decode cX0_offer 48 = .ok (.lload 8, 2) := by decide +kernel
theorem dX0_offer_50 : decode cX0_offer 50 = .ok (.aload_n 0, 1) := by decide +kernel
theorem dX0_offer_51 : decode cX0_offer 51 = .ok (.iload 4, 2) := by decide +kernel
theorem dX0_offer_53 : decode cX0_offer 53 = .ok (.invokevirtual 60, 3) := by decide +kernel
theorem dX0_offer_56 : decode cX0_offer 56 = .ok (.lmul, 1) := by decide +kernel
theorem dX0_offer_57 : decode cX0_offer 57 = .ok (.lstore 8, 2) := by decide +kernel
theorem dX0_offer_59 : decode cX0_offer 59 = .ok (.lload 6, 2) := by decide +kernel
theorem dX0_offer_61 : decode cX0_offer 61 = .ok (.aload_n 0, 1) := by decide +kernel
theorem dX0_offer_62 : decode cX0_offer 62 = .ok (.getfield 41, 3) := by decide +kernel
theorem dX0_offer_65 : decode cX0_offer 65 = .ok (.lmul, 1) := by decide +kernel
theorem dX0_offer_66 : decode cX0_offer 66 = .ok (.aload_n 0, 1) := by decide +kernel
theorem dX0_offer_67 : decode cX0_offer 67 = .ok (.getfield 37, 3) := by decide +kernel
theorem dX0_offer_70 : decode cX0_offer 70 = .ok (.lload 8, 2) := by decide +kernel
theorem dX0_offer_72 : decode cX0_offer 72 = .ok (.lmul, 1) := by decide +kernel
theorem dX0_offer_73 : decode cX0_offer 73 = .ok (.lcmp, 1) := by decide +kernel
theorem dX0_offer_74 : decode cX0_offer 74 = .ok (.ifCond .le 42, 3) := by decide +kernel
theorem dX0_offer_77 : decode cX0_offer 77 = .ok (.aload_n 0, 1) := by decide +kernel
theorem dX0_offer_78 : decode cX0_offer 78 = .ok (.iload_n 1, 1) := by decide +kernel
theorem dX0_offer_79 : decode cX0_offer 79 = .ok (.putfield 34, 3) := by decide +kernel
theorem dX0_offer_82 : decode cX0_offer 82 = .ok (.aload_n 0, 1) := by decide +kernel
theorem dX0_offer_83 : decode cX0_offer 83 = .ok (.getfield 27, 3) := by decide +kernel
theorem dX0_offer_86 : decode cX0_offer 86 = .ok (.iconst 0, 1) := by decide +kernel
theorem dX0_offer_87 : decode cX0_offer 87 = .ok (.iload_n 2, 1) := by decide +kernel
theorem dX0_offer_88 : decode cX0_offer 88 = .ok (.iastore, 1) := by decide +kernel
theorem dX0_offer_89 : decode cX0_offer 89 = .ok (.aload_n 0, 1) := by decide +kernel
theorem dX0_offer_90 : decode cX0_offer 90 = .ok (.getfield 27, 3) := by decide +kernel
theorem dX0_offer_93 : decode cX0_offer 93 = .ok (.iconst 1, 1) := by decide +kernel
theorem dX0_offer_94 : decode cX0_offer 94 = .ok (.iload_n 3, 1) := by decide +kernel
theorem dX0_offer_95 : decode cX0_offer 95 = .ok (.iastore, 1) := by decide +kernel
theorem dX0_offer_96 : decode cX0_offer 96 = .ok (.aload_n 0, 1) := by decide +kernel
theorem dX0_offer_97 : decode cX0_offer 97 = .ok (.getfield 27, 3) := by decide +kernel
theorem dX0_offer_100 : decode cX0_offer 100 = .ok (.iconst 2, 1) := by decide +kernel
theorem dX0_offer_101 : decode cX0_offer 101 = .ok (.iload 4, 2) := by decide +kernel
theorem dX0_offer_103 : decode cX0_offer 103 = .ok (.iastore, 1) := by decide +kernel
theorem dX0_offer_104 : decode cX0_offer 104 = .ok (.aload_n 0, 1) := by decide +kernel
theorem dX0_offer_105 : decode cX0_offer 105 = .ok (.lload 6, 2) := by decide +kernel
theorem dX0_offer_107 : decode cX0_offer 107 = .ok (.putfield 37, 3) := by decide +kernel
theorem dX0_offer_110 : decode cX0_offer 110 = .ok (.aload_n 0, 1) := by decide +kernel
theorem dX0_offer_111 : decode cX0_offer 111 = .ok (.lload 8, 2) := by decide +kernel
theorem dX0_offer_113 : decode cX0_offer 113 = .ok (.putfield 41, 3) := by decide +kernel
theorem dX0_offer_116 : decode cX0_offer 116 = .ok (.return_, 1) := by decide +kernel
theorem dX0_got_0 : decode cX0_got 0 = .ok (.aload_n 0, 1) := by decide +kernel
theorem dX0_got_1 : decode cX0_got 1 = .ok (.getfield 15, 3) := by decide +kernel
theorem dX0_got_4 : decode cX0_got 4 = .ok (.iload_n 1, 1) := by decide +kernel
theorem dX0_got_5 : decode cX0_got 5 = .ok (.iaload, 1) := by decide +kernel
theorem dX0_got_6 : decode cX0_got 6 = .ok (.ifCond .ne 13, 3) := by decide +kernel
theorem dX0_got_9 : decode cX0_got 9 = .ok (.aload_n 0, 1) := by decide +kernel
theorem dX0_got_10 : decode cX0_got 10 = .ok (.getfield 21, 3) := by decide +kernel
theorem dX0_got_13 : decode cX0_got 13 = .ok (.iload_n 1, 1) := by decide +kernel
theorem dX0_got_14 : decode cX0_got 14 = .ok (.iaload, 1) := by decide +kernel
theorem dX0_got_15 : decode cX0_got 15 = .ok (.i2l, 1) := by decide +kernel
theorem dX0_got_16 : decode cX0_got 16 = .ok (.goto 12, 3) := by decide +kernel
theorem dX0_got_19 : decode cX0_got 19 = .ok (.aload_n 0, 1) := by decide +kernel
theorem dX0_got_20 : decode cX0_got 20 = .ok (.getfield 21, 3) := by decide +kernel
theorem dX0_got_23 : decode cX0_got 23 = .ok (.iload_n 1, 1) := by decide +kernel
theorem dX0_got_24 : decode cX0_got 24 = .ok (.iaload, 1) := by decide +kernel
theorem dX0_got_25 : decode cX0_got 25 = .ok (.iload_n 2, 1) := by decide +kernel
theorem dX0_got_26 : decode cX0_got 26 = .ok (.imul, 1) := by decide +kernel
theorem dX0_got_27 : decode cX0_got 27 = .ok (.i2l, 1) := by decide +kernel
theorem dX0_got_28 : decode cX0_got 28 = .ok (.lreturn, 1) := by decide +kernel
theorem dX0_paid_0 : decode cX0_paid 0 = .ok (.aload_n 0, 1) := by decide +kernel
theorem dX0_paid_1 : decode cX0_paid 1 = .ok (.getfield 9, 3) := by decide +kernel
theorem dX0_paid_4 : decode cX0_paid 4 = .ok (.iload_n 1, 1) := by decide +kernel
theorem dX0_paid_5 : decode cX0_paid 5 = .ok (.iaload, 1) := by decide +kernel
theorem dX0_paid_6 : decode cX0_paid 6 = .ok (.ifCond .ne 13, 3) := by decide +kernel
theorem dX0_paid_9 : decode cX0_paid 9 = .ok (.aload_n 0, 1) := by decide +kernel
theorem dX0_paid_10 : decode cX0_paid 10 = .ok (.getfield 18, 3) := by decide +kernel
theorem dX0_paid_13 : decode cX0_paid 13 = .ok (.iload_n 1, 1) := by decide +kernel
theorem dX0_paid_14 : decode cX0_paid 14 = .ok (.iaload, 1) := by decide +kernel
theorem dX0_paid_15 : decode cX0_paid 15 = .ok (.i2l, 1) := by decide +kernel
theorem dX0_paid_16 : decode cX0_paid 16 = .ok (.goto 17, 3) := by decide +kernel
theorem dX0_paid_19 : decode cX0_paid 19 = .ok (.aload_n 0, 1) := by decide +kernel
theorem dX0_paid_20 : decode cX0_paid 20 = .ok (.getfield 18, 3) := by decide +kernel
theorem dX0_paid_23 : decode cX0_paid 23 = .ok (.iload_n 1, 1) := by decide +kernel
theorem dX0_paid_24 : decode cX0_paid 24 = .ok (.iaload, 1) := by decide +kernel
theorem dX0_paid_25 : decode cX0_paid 25 = .ok (.aload_n 0, 1) := by decide +kernel
theorem dX0_paid_26 : decode cX0_paid 26 = .ok (.getfield 24, 3) := by decide +kernel
theorem dX0_paid_29 : decode cX0_paid 29 = .ok (.iload_n 1, 1) := by decide +kernel
theorem dX0_paid_30 : decode cX0_paid 30 = .ok (.iaload, 1) := by decide +kernel
theorem dX0_paid_31 : decode cX0_paid 31 = .ok (.imul, 1) := by decide +kernel
theorem dX0_paid_32 : decode cX0_paid 32 = .ok (.i2l, 1) := by decide +kernel
theorem dX0_paid_33 : decode cX0_paid 33 = .ok (.lreturn, 1) := by decide +kernel
theorem dX1_init_0 : decode cX1_init 0 = .ok (.aload_n 0, 1) := by decide +kernel
theorem dX1_init_1 : decode cX1_init 1 = .ok (.invokespecial 3, 3) := by decide +kernel
theorem dX1_init_4 : decode cX1_init 4 = .ok (.aload_n 0, 1) := by decide +kernel
theorem dX1_init_5 : decode cX1_init 5 = .ok (.bipush 60, 2) := by decide +kernel
theorem dX1_init_7 : decode cX1_init 7 = .ok (.newarray .int, 2) := by decide +kernel
theorem dX1_init_9 : decode cX1_init 9 = .ok (.putfield 9, 3) := by decide +kernel
theorem dX1_init_12 : decode cX1_init 12 = .ok (.aload_n 0, 1) := by decide +kernel
theorem dX1_init_13 : decode cX1_init 13 = .ok (.iconst 3, 1) := by decide +kernel
theorem dX1_init_14 : decode cX1_init 14 = .ok (.newarray .int, 2) := by decide +kernel
theorem dX1_init_16 : decode cX1_init 16 = .ok (.putfield 15, 3) := by decide +kernel
theorem dX1_init_19 : decode cX1_init 19 = .ok (.return_, 1) := by decide +kernel
theorem dX1_forget_0 : decode cX1_forget 0 = .ok (.aload_n 0, 1) := by decide +kernel
theorem dX1_forget_1 : decode cX1_forget 1 = .ok (.iconst 0, 1) := by decide +kernel
theorem dX1_forget_2 : decode cX1_forget 2 = .ok (.putfield 18, 3) := by decide +kernel
theorem dX1_forget_5 : decode cX1_forget 5 = .ok (.aload_n 0, 1) := by decide +kernel
theorem dX1_forget_6 : decode cX1_forget 6 = .ok (.getfield 9, 3) := by decide +kernel
theorem dX1_forget_9 : decode cX1_forget 9 = .ok (.iconst 0, 1) := by decide +kernel
theorem dX1_forget_10 : decode cX1_forget 10 = .ok (.invokestatic 22, 3) := by decide +kernel
theorem dX1_forget_13 : decode cX1_forget 13 = .ok (.return_, 1) := by decide +kernel
theorem dX1_hold_0 : decode cX1_hold 0 = .ok (.iload_n 1, 1) := by decide +kernel
theorem dX1_hold_1 : decode cX1_hold 1 = .ok (.iload_n 3, 1) := by decide +kernel
theorem dX1_hold_2 : decode cX1_hold 2 = .ok (.iadd, 1) := by decide +kernel
theorem dX1_hold_3 : decode cX1_hold 3 = .ok (.iconst 1, 1) := by decide +kernel
theorem dX1_hold_4 : decode cX1_hold 4 = .ok (.isub, 1) := by decide +kernel
theorem dX1_hold_5 : decode cX1_hold 5 = .ok (.bipush 20, 2) := by decide +kernel
theorem dX1_hold_7 : decode cX1_hold 7 = .ok (.imul, 1) := by decide +kernel
theorem dX1_hold_8 : decode cX1_hold 8 = .ok (.istore 6, 2) := by decide +kernel
theorem dX1_hold_10 : decode cX1_hold 10 = .ok (.iconst 0, 1) := by decide +kernel
theorem dX1_hold_11 : decode cX1_hold 11 = .ok (.istore 7, 2) := by decide +kernel
theorem dX1_hold_13 : decode cX1_hold 13 = .ok (.iload 7, 2) := by decide +kernel
theorem dX1_hold_15 : decode cX1_hold 15 = .ok (.bipush 20, 2) := by decide +kernel
theorem dX1_hold_17 : decode cX1_hold 17 = .ok (.if_icmp .ge 63, 3) := by decide +kernel
theorem dX1_hold_20 : decode cX1_hold 20 = .ok (.iconst 0, 1) := by decide +kernel
theorem dX1_hold_21 : decode cX1_hold 21 = .ok (.istore 8, 2) := by decide +kernel
theorem dX1_hold_23 : decode cX1_hold 23 = .ok (.iload 8, 2) := by decide +kernel
theorem dX1_hold_25 : decode cX1_hold 25 = .ok (.bipush 20, 2) := by decide +kernel
theorem dX1_hold_27 : decode cX1_hold 27 = .ok (.if_icmp .ge 47, 3) := by decide +kernel
theorem dX1_hold_30 : decode cX1_hold 30 = .ok (.iload_n 2, 1) := by decide +kernel
theorem dX1_hold_31 : decode cX1_hold 31 = .ok (.iload 7, 2) := by decide +kernel
theorem dX1_hold_33 : decode cX1_hold 33 = .ok (.iconst 1, 1) := by decide +kernel
theorem dX1_hold_34 : decode cX1_hold 34 = .ok (.iadd, 1) := by decide +kernel
theorem dX1_hold_35 : decode cX1_hold 35 = .ok (.imul, 1) := by decide +kernel
theorem dX1_hold_36 : decode cX1_hold 36 = .ok (.iload 4, 2) := by decide +kernel
theorem dX1_hold_38 : decode cX1_hold 38 = .ok (.iload 8, 2) := by decide +kernel
theorem dX1_hold_40 : decode cX1_hold 40 = .ok (.iconst 1, 1) := by decide +kernel
theorem dX1_hold_41 : decode cX1_hold 41 = .ok (.iadd, 1) := by decide +kernel
theorem dX1_hold_42 : decode cX1_hold 42 = .ok (.imul, 1) := by decide +kernel
theorem dX1_hold_43 : decode cX1_hold 43 = .ok (.invokestatic 28, 3) := by decide +kernel
theorem dX1_hold_46 : decode cX1_hold 46 = .ok (.iload 5, 2) := by decide +kernel
theorem dX1_hold_48 : decode cX1_hold 48 = .ok (.if_icmp .eq 20, 3) := by decide +kernel
theorem dX1_hold_51 : decode cX1_hold 51 = .ok (.aload_n 0, 1) := by decide +kernel
theorem dX1_hold_52 : decode cX1_hold 52 = .ok (.getfield 9, 3) := by decide +kernel
theorem dX1_hold_55 : decode cX1_hold 55 = .ok (.iload 6, 2) := by decide +kernel
theorem dX1_hold_57 : decode cX1_hold 57 = .ok (.iload 7, 2) := by decide +kernel
theorem dX1_hold_59 : decode cX1_hold 59 = .ok (.iadd, 1) := by decide +kernel
theorem dX1_hold_60 : decode cX1_hold 60 = .ok (.dup2, 1) := by decide +kernel
theorem dX1_hold_61 : decode cX1_hold 61 = .ok (.iaload, 1) := by decide +kernel
theorem dX1_hold_62 : decode cX1_hold 62 = .ok (.iconst 1, 1) := by decide +kernel
theorem dX1_hold_63 : decode cX1_hold 63 = .ok (.iload 8, 2) := by decide +kernel
theorem dX1_hold_65 : decode cX1_hold 65 = .ok (.ishl, 1) := by decide +kernel
theorem dX1_hold_66 : decode cX1_hold 66 = .ok (.ior, 1) := by decide +kernel
theorem dX1_hold_67 : decode cX1_hold 67 = .ok (.iastore, 1) := by decide +kernel
theorem dX1_hold_68 : decode cX1_hold 68 = .ok (.iinc 8 1, 3) := by decide +kernel
theorem dX1_hold_71 : decode cX1_hold 71 = .ok (.goto (-48), 3) := by decide +kernel
theorem dX1_hold_74 : decode cX1_hold 74 = .ok (.iinc 7 1, 3) := by decide +kernel
theorem dX1_hold_77 : decode cX1_hold 77 = .ok (.goto (-64), 3) := by decide +kernel
theorem dX1_hold_80 : decode cX1_hold 80 = .ok (.aload_n 0, 1) := by decide +kernel
theorem dX1_hold_81 : decode cX1_hold 81 = .ok (.dup, 1) := by decide +kernel
theorem dX1_hold_82 : decode cX1_hold 82 = .ok (.getfield 18, 3) := by decide +kernel
theorem dX1_hold_85 : decode cX1_hold 85 = .ok (.iconst 1, 1) := by decide +kernel
theorem dX1_hold_86 : decode cX1_hold 86 = .ok (.iadd, 1) := by decide +kernel
theorem dX1_hold_87 : decode cX1_hold 87 = .ok (.putfield 18, 3) := by decide +kernel
theorem dX1_hold_90 : decode cX1_hold 90 = .ok (.return_, 1) := by decide +kernel
theorem dX1_reckon_0 : decode cX1_reckon 0 = .ok (.aload_n 0, 1) := by decide +kernel
theorem dX1_reckon_1 : decode cX1_reckon 1 = .ok (.iconst 0, 1) := by decide +kernel
theorem dX1_reckon_2 : decode cX1_reckon 2 = .ok (.putfield 34, 3) := by decide +kernel
theorem dX1_reckon_5 : decode cX1_reckon 5 = .ok (.aload_n 0, 1) := by decide +kernel
theorem dX1_reckon_6 : decode cX1_reckon 6 = .ok (.getfield 15, 3) := by decide +kernel
theorem dX1_reckon_9 : decode cX1_reckon 9 = .ok (.iconst 0, 1) := by decide +kernel
theorem dX1_reckon_10 : decode cX1_reckon 10 = .ok (.invokestatic 22, 3) := by decide +kernel
theorem dX1_reckon_13 : decode cX1_reckon 13 = .ok (.iconst 0, 1) := by decide +kernel
theorem dX1_reckon_14 : decode cX1_reckon 14 = .ok (.istore_n 1, 1) := by decide +kernel
theorem dX1_reckon_15 : decode cX1_reckon 15 = .ok (.iload_n 1, 1) := by decide +kernel
theorem dX1_reckon_16 : decode cX1_reckon 16 = .ok (.bipush 20, 2) := by decide +kernel
theorem dX1_reckon_18 : decode cX1_reckon 18 = .ok (.if_icmp .ge 114, 3) := by decide +kernel
theorem dX1_reckon_21 : decode cX1_reckon 21 = .ok (.iconst 0, 1) := by decide +kernel
theorem dX1_reckon_22 : decode cX1_reckon 22 = .ok (.istore_n 2, 1) := by decide +kernel
theorem dX1_reckon_23 : decode cX1_reckon 23 = .ok (.iload_n 2, 1) := by decide +kernel
theorem dX1_reckon_24 : decode cX1_reckon 24 = .ok (.bipush 20, 2) := by decide +kernel
theorem dX1_reckon_26 : decode cX1_reckon 26 = .ok (.if_icmp .ge 100, 3) := by decide +kernel
theorem dX1_reckon_29 : decode cX1_reckon 29 = .ok (.ldc 37, 2) := by decide +kernel
theorem dX1_reckon_31 : decode cX1_reckon 31 = .ok (.aload_n 0, 1) := by decide +kernel
theorem dX1_reckon_32 : decode cX1_reckon 32 = .ok (.getfield 9, 3) := by decide +kernel
theorem dX1_reckon_35 : decode cX1_reckon 35 = .ok (.bipush 20, 2) := by decide +kernel
theorem dX1_reckon_37 : decode cX1_reckon 37 = .ok (.iload_n 1, 1) := by decide +kernel
theorem dX1_reckon_38 : decode cX1_reckon 38 = .ok (.iadd, 1) := by decide +kernel
theorem dX1_reckon_39 : decode cX1_reckon 39 = .ok (.iaload, 1) := by decide +kernel
theorem dX1_reckon_40 : decode cX1_reckon 40 = .ok (.aload_n 0, 1) := by decide +kernel
theorem dX1_reckon_41 : decode cX1_reckon 41 = .ok (.getfield 9, 3) := by decide +kernel
theorem dX1_reckon_44 : decode cX1_reckon 44 = .ok (.bipush 40, 2) := by decide +kernel
theorem dX1_reckon_46 : decode cX1_reckon 46 = .ok (.iload_n 2, 1) := by decide +kernel
theorem dX1_reckon_47 : decode cX1_reckon 47 = .ok (.iadd, 1) := by decide +kernel
theorem dX1_reckon_48 : decode cX1_reckon 48 = .ok (.iaload, 1) := by decide +kernel
theorem dX1_reckon_49 : decode cX1_reckon 49 = .ok (.ior, 1) := by decide +kernel
theorem dX1_reckon_50 : decode cX1_reckon 50 = .ok (.iconst (-1), 1) := by decide +kernel
theorem dX1_reckon_51 : decode cX1_reckon 51 = .ok (.ixor, 1) := by decide +kernel
theorem dX1_reckon_52 : decode cX1_reckon 52 = .ok (.iand, 1) := by decide +kernel
theorem dX1_reckon_53 : decode cX1_reckon 53 = .ok (.istore_n 3, 1) := by decide +kernel
theorem dX1_reckon_54 : decode cX1_reckon 54 = .ok (.aload_n 0, 1) := by decide +kernel
theorem dX1_reckon_55 : decode cX1_reckon 55 = .ok (.getfield 9, 3) := by decide +kernel
theorem dX1_reckon_58 : decode cX1_reckon 58 = .ok (.iconst 0, 1) := by decide +kernel
theorem dX1_reckon_59 : decode cX1_reckon 59 = .ok (.iload_n 1, 1) := by decide +kernel
theorem dX1_reckon_60 : decode cX1_reckon 60 = .ok (.iadd, 1) := by decide +kernel
theorem dX1_reckon_61 : decode cX1_reckon 61 = .ok (.iaload, 1) := by decide +kernel
theorem dX1_reckon_62 : decode cX1_reckon 62 = .ok (.iload_n 2, 1) := by decide +kernel
theorem dX1_reckon_63 : decode cX1_reckon 63 = .ok (.ishr, 1) := by decide +kernel
theorem dX1_reckon_64 : decode cX1_reckon 64 = .ok (.iconst 1, 1) := by decide +kernel
theorem dX1_reckon_65 : decode cX1_reckon 65 = .ok (.iand, 1) := by decide +kernel
theorem dX1_reckon_66 : decode cX1_reckon 66 = .ok (.ifCond .ne 54, 3) := by decide +kernel
theorem dX1_reckon_69 : decode cX1_reckon 69 = .ok (.iload_n 3, 1) := by decide +kernel
theorem dX1_reckon_70 : decode cX1_reckon 70 = .ok (.ifCond .eq 50, 3) := by decide +kernel
theorem dX1_reckon_73 : decode cX1_reckon 73 = .ok (.aload_n 0, 1) := by decide +kernel
theorem dX1_reckon_74 : decode cX1_reckon 74 = .ok (.dup, 1) := by decide +kernel
theorem dX1_reckon_75 : decode cX1_reckon 75 = .ok (.getfield 34, 3) := by decide +kernel
theorem dX1_reckon_78 : decode cX1_reckon 78 = .ok (.iload_n 3, 1) := by decide +kernel
theorem dX1_reckon_79 : decode cX1_reckon 79 = .ok (.invokestatic 38, 3) := by decide +kernel
theorem dX1_reckon_82 : decode cX1_reckon 82 = .ok (.iadd, 1) := by decide +kernel
theorem dX1_reckon_83 : decode cX1_reckon 83 = .ok (.putfield 34, 3) := by decide +kernel
theorem dX1_reckon_86 : decode cX1_reckon 86 = .ok (.aload_n 0, 1) := by decide +kernel
theorem dX1_reckon_87 : decode cX1_reckon 87 = .ok (.getfield 15, 3) := by decide +kernel
theorem dX1_reckon_90 : decode cX1_reckon 90 = .ok (.iconst 0, 1) := by decide +kernel
theorem dX1_reckon_91 : decode cX1_reckon 91 = .ok (.dup2, 1) := by decide +kernel
theorem dX1_reckon_92 : decode cX1_reckon 92 = .ok (.iaload, 1) := by decide +kernel
theorem dX1_reckon_93 : decode cX1_reckon 93 = .ok (.iconst 1, 1) := by decide +kernel
theorem dX1_reckon_94 : decode cX1_reckon 94 = .ok (.iload_n 1, 1) := by decide +kernel
theorem dX1_reckon_95 : decode cX1_reckon 95 = .ok (.ishl, 1) := by decide +kernel
theorem dX1_reckon_96 : decode cX1_reckon 96 = .ok (.ior, 1) := by decide +kernel
theorem dX1_reckon_97 : decode cX1_reckon 97 = .ok (.iastore, 1) := by decide +kernel
theorem dX1_reckon_98 : decode cX1_reckon 98 = .ok (.aload_n 0, 1) := by decide +kernel
theorem dX1_reckon_99 : decode cX1_reckon 99 = .ok (.getfield 15, 3) := by decide +kernel
theorem dX1_reckon_102 : decode cX1_reckon 102 = .ok (.iconst 1, 1) := by decide +kernel
theorem dX1_reckon_103 : decode cX1_reckon 103 = .ok (.dup2, 1) := by decide +kernel
theorem dX1_reckon_104 : decode cX1_reckon 104 = .ok (.iaload, 1) := by decide +kernel
theorem dX1_reckon_105 : decode cX1_reckon 105 = .ok (.iconst 1, 1) := by decide +kernel
theorem dX1_reckon_106 : decode cX1_reckon 106 = .ok (.iload_n 2, 1) := by decide +kernel
theorem dX1_reckon_107 : decode cX1_reckon 107 = .ok (.ishl, 1) := by decide +kernel
theorem dX1_reckon_108 : decode cX1_reckon 108 = .ok (.ior, 1) := by decide +kernel
theorem dX1_reckon_109 : decode cX1_reckon 109 = .ok (.iastore, 1) := by decide +kernel
theorem dX1_reckon_110 : decode cX1_reckon 110 = .ok (.aload_n 0, 1) := by decide +kernel
theorem dX1_reckon_111 : decode cX1_reckon 111 = .ok (.getfield 15, 3) := by decide +kernel
theorem dX1_reckon_114 : decode cX1_reckon 114 = .ok (.iconst 2, 1) := by decide +kernel
theorem dX1_reckon_115 : decode cX1_reckon 115 = .ok (.dup2, 1) := by decide +kernel
theorem dX1_reckon_116 : decode cX1_reckon 116 = .ok (.iaload, 1) := by decide +kernel
theorem dX1_reckon_117 : decode cX1_reckon 117 = .ok (.iload_n 3, 1) := by decide +kernel
theorem dX1_reckon_118 : decode cX1_reckon 118 = .ok (.ior, 1) := by decide +kernel
theorem dX1_reckon_119 : decode cX1_reckon 119 = .ok (.iastore, 1) := by decide +kernel
theorem dX1_reckon_120 : decode cX1_reckon 120 = .ok (.iinc 2 1, 3) := by decide +kernel
theorem dX1_reckon_123 : decode cX1_reckon 123 = .ok (.goto (-100), 3) := by decide +kernel
theorem dX1_reckon_126 : decode cX1_reckon 126 = .ok (.iinc 1 1, 3) := by decide +kernel
theorem dX1_reckon_129 : decode cX1_reckon 129 = .ok (.goto (-114), 3) := by decide +kernel
theorem dX1_reckon_132 : decode cX1_reckon 132 = .ok (.return_, 1) := by decide +kernel
theorem dX1_leastOf_0 : decode cX1_leastOf 0 = .ok (.iconst 1, 1) := by decide +kernel
theorem dX1_leastOf_1 : decode cX1_leastOf 1 = .ok (.istore_n 2, 1) := by decide +kernel
theorem dX1_leastOf_2 : decode cX1_leastOf 2 = .ok (.iload_n 2, 1) := by decide +kernel
theorem dX1_leastOf_3 : decode cX1_leastOf 3 = .ok (.bipush 20, 2) := by decide +kernel
theorem dX1_leastOf_5 : decode cX1_leastOf 5 = .ok (.if_icmp .gt 27, 3) := by decide +kernel
theorem dX1_leastOf_8 : decode cX1_leastOf 8 = .ok (.aload_n 0, 1) := by decide +kernel
theorem dX1_leastOf_9 : decode cX1_leastOf 9 = .ok (.getfield 15, 3) := by decide +kernel
theorem dX1_leastOf_12 : decode cX1_leastOf 12 = .ok (.iload_n 1, 1) := by decide +kernel
theorem dX1_leastOf_13 : decode cX1_leastOf 13 = .ok (.iaload, 1) := by decide +kernel
theorem dX1_leastOf_14 : decode cX1_leastOf 14 = .ok (.iload_n 2, 1) := by decide +kernel
theorem dX1_leastOf_15 : decode cX1_leastOf 15 = .ok (.iconst 1, 1) := by decide +kernel
theorem dX1_leastOf_16 : decode cX1_leastOf 16 = .ok (.isub, 1) := by decide +kernel
theorem dX1_leastOf_17 : decode cX1_leastOf 17 = .ok (.ishr, 1) := by decide +kernel
theorem dX1_leastOf_18 : decode cX1_leastOf 18 = .ok (.iconst 1, 1) := by decide +kernel
theorem dX1_leastOf_19 : decode cX1_leastOf 19 = .ok (.iand, 1) := by decide +kernel
theorem dX1_leastOf_20 : decode cX1_leastOf 20 = .ok (.iconst 1, 1) := by decide +kernel
theorem dX1_leastOf_21 : decode cX1_leastOf 21 = .ok (.if_icmp .ne 5, 3) := by decide +kernel
theorem dX1_leastOf_24 : decode cX1_leastOf 24 = .ok (.iload_n 2, 1) := by decide +kernel
theorem dX1_leastOf_25 : decode cX1_leastOf 25 = .ok (.ireturn, 1) := by decide +kernel
theorem dX1_leastOf_26 : decode cX1_leastOf 26 = .ok (.iinc 2 1, 3) := by decide +kernel
theorem dX1_leastOf_29 : decode cX1_leastOf 29 = .ok (.goto (-27), 3) := by decide +kernel
theorem dX1_leastOf_32 : decode cX1_leastOf 32 = .ok (.bipush (-9), 2) := by decide +kernel
theorem dX1_leastOf_34 : decode cX1_leastOf 34 = .ok (.ireturn, 1) := by decide +kernel
theorem dX1_greatestOf_0 : decode cX1_greatestOf 0 = .ok (.bipush 20, 2) := by decide +kernel
theorem dX1_greatestOf_2 : decode cX1_greatestOf 2 = .ok (.istore_n 2, 1) := by decide +kernel
theorem dX1_greatestOf_3 : decode cX1_greatestOf 3 = .ok (.iload_n 2, 1) := by decide +kernel
theorem dX1_greatestOf_4 : decode cX1_greatestOf 4 = .ok (.iconst 1, 1) := by decide +kernel
theorem dX1_greatestOf_5 : decode cX1_greatestOf 5 = .ok (.if_icmp .lt 27, 3) := by decide +kernel
theorem dX1_greatestOf_8 : decode cX1_greatestOf 8 = .ok (.aload_n 0, 1) := by decide +kernel
theorem dX1_greatestOf_9 : decode cX1_greatestOf 9 = .ok (.getfield 15, 3) := by decide +kernel
theorem dX1_greatestOf_12 : decode cX1_greatestOf 12 = .ok (.iload_n 1, 1) := by decide +kernel
theorem dX1_greatestOf_13 : decode cX1_greatestOf 13 = .ok (.iaload, 1) := by decide +kernel
theorem dX1_greatestOf_14 : decode cX1_greatestOf 14 = .ok (.iload_n 2, 1) := by decide +kernel
theorem dX1_greatestOf_15 : decode cX1_greatestOf 15 = .ok (.iconst 1, 1) := by decide +kernel
theorem dX1_greatestOf_16 : decode cX1_greatestOf 16 = .ok (.isub, 1) := by decide +kernel
theorem dX1_greatestOf_17 : decode cX1_greatestOf 17 = .ok (.ishr, 1) := by decide +kernel
theorem dX1_greatestOf_18 : decode cX1_greatestOf 18 = .ok (.iconst 1, 1) := by decide +kernel
theorem dX1_greatestOf_19 : decode cX1_greatestOf 19 = .ok (.iand, 1) := by decide +kernel
theorem dX1_greatestOf_20 : decode cX1_greatestOf 20 = .ok (.iconst 1, 1) := by decide +kernel
theorem dX1_greatestOf_21 : decode cX1_greatestOf 21 = .ok (.if_icmp .ne 5, 3) := by decide +kernel
theorem dX1_greatestOf_24 : decode cX1_greatestOf 24 = .ok (.iload_n 2, 1) := by decide +kernel
theorem dX1_greatestOf_25 : decode cX1_greatestOf 25 = .ok (.ireturn, 1) := by decide +kernel
theorem dX1_greatestOf_26 : decode cX1_greatestOf 26 = .ok (.iinc 2 (-1), 3) := by decide +kernel
theorem dX1_greatestOf_29 : decode cX1_greatestOf 29 = .ok (.goto (-26), 3) := by decide +kernel
theorem dX1_greatestOf_32 : decode cX1_greatestOf 32 = .ok (.bipush (-9), 2) := by decide +kernel
theorem dX1_greatestOf_34 : decode cX1_greatestOf 34 = .ok (.ireturn, 1) := by decide +kernel
theorem dX2_init_0 : decode cX2_init 0 = .ok (.aload_n 0, 1) := by decide +kernel
theorem dX2_init_1 : decode cX2_init 1 = .ok (.invokespecial 3, 3) := by decide +kernel
theorem dX2_init_4 : decode cX2_init 4 = .ok (.aload_n 0, 1) := by decide +kernel
theorem dX2_init_5 : decode cX2_init 5 = .ok (.sipush 1000, 3) := by decide +kernel
theorem dX2_init_8 : decode cX2_init 8 = .ok (.newarray .int, 2) := by decide +kernel
theorem dX2_init_10 : decode cX2_init 10 = .ok (.putfield 9, 3) := by decide +kernel
theorem dX2_init_13 : decode cX2_init 13 = .ok (.return_, 1) := by decide +kernel
theorem dX2_reckon_0 : decode cX2_reckon 0 = .ok (.iconst 0, 1) := by decide +kernel
theorem dX2_reckon_1 : decode cX2_reckon 1 = .ok (.istore 4, 2) := by decide +kernel
theorem dX2_reckon_3 : decode cX2_reckon 3 = .ok (.aload_n 0, 1) := by decide +kernel
theorem dX2_reckon_4 : decode cX2_reckon 4 = .ok (.getfield 9, 3) := by decide +kernel
theorem dX2_reckon_7 : decode cX2_reckon 7 = .ok (.iconst 0, 1) := by decide +kernel
theorem dX2_reckon_8 : decode cX2_reckon 8 = .ok (.iconst 0, 1) := by decide +kernel
theorem dX2_reckon_9 : decode cX2_reckon 9 = .ok (.iastore, 1) := by decide +kernel
theorem dX2_reckon_10 : decode cX2_reckon 10 = .ok (.iconst 1, 1) := by decide +kernel
theorem dX2_reckon_11 : decode cX2_reckon 11 = .ok (.istore 5, 2) := by decide +kernel
theorem dX2_reckon_13 : decode cX2_reckon 13 = .ok (.iload 5, 2) := by decide +kernel
theorem dX2_reckon_15 : decode cX2_reckon 15 = .ok (.iload_n 1, 1) := by decide +kernel
theorem dX2_reckon_16 : decode cX2_reckon 16 = .ok (.if_icmp .gt 40, 3) := by decide +kernel
theorem dX2_reckon_19 : decode cX2_reckon 19 = .ok (.aload_n 0, 1) := by decide +kernel
theorem dX2_reckon_20 : decode cX2_reckon 20 = .ok (.getfield 9, 3) := by decide +kernel
theorem dX2_reckon_23 : decode cX2_reckon 23 = .ok (.iload 5, 2) := by decide +kernel
theorem dX2_reckon_25 : decode cX2_reckon 25 = .ok (.aload_n 0, 1) := by decide +kernel
theorem dX2_reckon_26 : decode cX2_reckon 26 = .ok (.iload 5, 2) := by decide +kernel
theorem dX2_reckon_28 : decode cX2_reckon 28 = .ok (.iload_n 2, 1) := by decide +kernel
theorem dX2_reckon_29 : decode cX2_reckon 29 = .ok (.aload_n 3, 1) := by decide +kernel
theorem dX2_reckon_30 : decode cX2_reckon 30 = .ok (.invokevirtual 15, 3) := by decide +kernel
theorem dX2_reckon_33 : decode cX2_reckon 33 = .ok (.iastore, 1) := by decide +kernel
theorem dX2_reckon_34 : decode cX2_reckon 34 = .ok (.aload_n 0, 1) := by decide +kernel
theorem dX2_reckon_35 : decode cX2_reckon 35 = .ok (.getfield 9, 3) := by decide +kernel
theorem dX2_reckon_38 : decode cX2_reckon 38 = .ok (.iload 5, 2) := by decide +kernel
theorem dX2_reckon_40 : decode cX2_reckon 40 = .ok (.iaload, 1) := by decide +kernel
theorem dX2_reckon_41 : decode cX2_reckon 41 = .ok (.ldc 19, 2) := by decide +kernel
theorem dX2_reckon_43 : decode cX2_reckon 43 = .ok (.if_icmp .ge 7, 3) := by decide +kernel
theorem dX2_reckon_46 : decode cX2_reckon 46 = .ok (.iload 5, 2) := by decide +kernel
theorem dX2_reckon_48 : decode cX2_reckon 48 = .ok (.istore 4, 2) := by decide +kernel
theorem dX2_reckon_50 : decode cX2_reckon 50 = .ok (.iinc 5 1, 3) := by decide +kernel
theorem dX2_reckon_53 : decode cX2_reckon 53 = .ok (.goto (-40), 3) := by decide +kernel
theorem dX2_reckon_56 : decode cX2_reckon 56 = .ok (.aload_n 0, 1) := by decide +kernel
theorem dX2_reckon_57 : decode cX2_reckon 57 = .ok (.iload_n 1, 1) := by decide +kernel
theorem dX2_reckon_58 : decode cX2_reckon 58 = .ok (.iload 4, 2) := by decide +kernel
theorem dX2_reckon_60 : decode cX2_reckon 60 = .ok (.isub, 1) := by decide +kernel
theorem dX2_reckon_61 : decode cX2_reckon 61 = .ok (.putfield 20, 3) := by decide +kernel
theorem dX2_reckon_64 : decode cX2_reckon 64 = .ok (.aload_n 0, 1) := by decide +kernel
theorem dX2_reckon_65 : decode cX2_reckon 65 = .ok (.aload_n 0, 1) := by decide +kernel
theorem dX2_reckon_66 : decode cX2_reckon 66 = .ok (.getfield 9, 3) := by decide +kernel
theorem dX2_reckon_69 : decode cX2_reckon 69 = .ok (.iload 4, 2) := by decide +kernel
theorem dX2_reckon_71 : decode cX2_reckon 71 = .ok (.iaload, 1) := by decide +kernel
theorem dX2_reckon_72 : decode cX2_reckon 72 = .ok (.putfield 24, 3) := by decide +kernel
theorem dX2_reckon_75 : decode cX2_reckon 75 = .ok (.return_, 1) := by decide +kernel
theorem dX2_fewestTo_0 : decode cX2_fewestTo 0 = .ok (.ldc 19, 2) := by decide +kernel
theorem dX2_fewestTo_2 : decode cX2_fewestTo 2 = .ok (.istore 4, 2) := by decide +kernel
theorem dX2_fewestTo_4 : decode cX2_fewestTo 4 = .ok (.iconst 0, 1) := by decide +kernel
theorem dX2_fewestTo_5 : decode cX2_fewestTo 5 = .ok (.istore 5, 2) := by decide +kernel
theorem dX2_fewestTo_7 : decode cX2_fewestTo 7 = .ok (.iload 5, 2) := by decide +kernel
theorem dX2_fewestTo_9 : decode cX2_fewestTo 9 = .ok (.bipush 6, 2) := by decide +kernel
theorem dX2_fewestTo_11 : decode cX2_fewestTo 11 = .ok (.if_icmp .ge 47, 3) := by decide +kernel
theorem dX2_fewestTo_14 : decode cX2_fewestTo 14 = .ok (.iload_n 2, 1) := by decide +kernel
theorem dX2_fewestTo_15 : decode cX2_fewestTo 15 = .ok (.iload 5, 2) := by decide +kernel
theorem dX2_fewestTo_17 : decode cX2_fewestTo 17 = .ok (.ishr, 1) := by decide +kernel
theorem dX2_fewestTo_18 : decode cX2_fewestTo 18 = .ok (.iconst 1, 1) := by decide +kernel
theorem dX2_fewestTo_19 : decode cX2_fewestTo 19 = .ok (.iand, 1) := by decide +kernel
theorem dX2_fewestTo_20 : decode cX2_fewestTo 20 = .ok (.iconst 1, 1) := by decide +kernel
theorem dX2_fewestTo_21 : decode cX2_fewestTo 21 = .ok (.if_icmp .ne 31, 3) := by decide +kernel
theorem dX2_fewestTo_24 : decode cX2_fewestTo 24 = .ok (.aload_n 3, 1) := by decide +kernel
theorem dX2_fewestTo_25 : decode cX2_fewestTo 25 = .ok (.iload 5, 2) := by decide +kernel
theorem dX2_fewestTo_27 : decode cX2_fewestTo 27 = .ok (.iaload, 1) := by decide +kernel
theorem dX2_fewestTo_28 : decode cX2_fewestTo 28 = .ok (.iload_n 1, 1) := by decide +kernel
theorem dX2_fewestTo_29 : decode cX2_fewestTo 29 = .ok (.if_icmp .gt 23, 3) := by decide +kernel
theorem dX2_fewestTo_32 : decode cX2_fewestTo 32 = .ok (.iload 4, 2) := by decide +kernel
theorem dX2_fewestTo_34 : decode cX2_fewestTo 34 = .ok (.aload_n 0, 1) := by decide +kernel
theorem dX2_fewestTo_35 : decode cX2_fewestTo 35 = .ok (.getfield 9, 3) := by decide +kernel
theorem dX2_fewestTo_38 : decode cX2_fewestTo 38 = .ok (.iload_n 1, 1) := by decide +kernel
theorem dX2_fewestTo_39 : decode cX2_fewestTo 39 = .ok (.aload_n 3, 1) := by decide +kernel
theorem dX2_fewestTo_40 : decode cX2_fewestTo 40 = .ok (.iload 5, 2) := by decide +kernel
theorem dX2_fewestTo_42 : decode cX2_fewestTo 42 = .ok (.iaload, 1) := by decide +kernel
theorem dX2_fewestTo_43 : decode cX2_fewestTo 43 = .ok (.isub, 1) := by decide +kernel
theorem dX2_fewestTo_44 : decode cX2_fewestTo 44 = .ok (.iaload, 1) := by decide +kernel
theorem dX2_fewestTo_45 : decode cX2_fewestTo 45 = .ok (.iconst 1, 1) := by decide +kernel
theorem dX2_fewestTo_46 : decode cX2_fewestTo 46 = .ok (.iadd, 1) := by decide +kernel
theorem dX2_fewestTo_47 : decode cX2_fewestTo 47 = .ok (.invokestatic 27, 3) := by decide +kernel
theorem dX2_fewestTo_50 : decode cX2_fewestTo 50 = .ok (.istore 4, 2) := by decide +kernel
theorem dX2_fewestTo_52 : decode cX2_fewestTo 52 = .ok (.iinc 5 1, 3) := by decide +kernel
theorem dX2_fewestTo_55 : decode cX2_fewestTo 55 = .ok (.goto (-48), 3) := by decide +kernel
theorem dX2_fewestTo_58 : decode cX2_fewestTo 58 = .ok (.iload 4, 2) := by decide +kernel
theorem dX2_fewestTo_60 : decode cX2_fewestTo 60 = .ok (.ireturn, 1) := by decide +kernel
end
section
theorem dX3_init_0 : decode cX3_init 0 = .ok (.aload_n 0, 1) := by decide +kernel
theorem dX3_init_1 : decode cX3_init 1 = .ok (.invokespecial 3, 3) := by decide +kernel
theorem dX3_init_4 : decode cX3_init 4 = .ok (.return_, 1) := by decide +kernel
theorem dX3_read_0 : decode cX3_read 0 = .ok (.aload_n 2, 1) := by decide +kernel
theorem dX3_read_1 : decode cX3_read 1 = .ok (.invokevirtual 9, 3) := by decide +kernel
theorem dX3_read_4 : decode cX3_read 4 = .ok (.aload_n 0, 1) := by decide +kernel
theorem dX3_read_5 : decode cX3_read 5 = .ok (.iconst 0, 1) := by decide +kernel
theorem dX3_read_6 : decode cX3_read 6 = .ok (.putfield 16, 3) := by decide +kernel
theorem dX3_read_9 : decode cX3_read 9 = .ok (.iconst 0, 1) := by decide +kernel
theorem dX3_read_10 : decode cX3_read 10 = .ok (.istore_n 3, 1) := by decide +kernel
theorem dX3_read_11 : decode cX3_read 11 = .ok (.iload_n 3, 1) := by decide +kernel
theorem dX3_read_12 : decode cX3_read 12 = .ok (.aload_n 1, 1) := by decide +kernel
theorem dX3_read_13 : decode cX3_read 13 = .ok (.getfield 20, 3) := by decide +kernel
theorem dX3_read_16 : decode cX3_read 16 = .ok (.if_icmp .ge 25, 3) := by decide +kernel
theorem dX3_read_19 : decode cX3_read 19 = .ok (.aload_n 0, 1) := by decide +kernel
theorem dX3_read_20 : decode cX3_read 20 = .ok (.aload_n 1, 1) := by decide +kernel
theorem dX3_read_21 : decode cX3_read 21 = .ok (.getfield 25, 3) := by decide +kernel
theorem dX3_read_24 : decode cX3_read 24 = .ok (.iload_n 3, 1) := by decide +kernel
theorem dX3_read_25 : decode cX3_read 25 = .ok (.iaload, 1) := by decide +kernel
theorem dX3_read_26 : decode cX3_read 26 = .ok (.aload_n 2, 1) := by decide +kernel
theorem dX3_read_27 : decode cX3_read 27 = .ok (.invokevirtual 29, 3) := by decide +kernel
theorem dX3_read_30 : decode cX3_read 30 = .ok (.ifCond .ne 5, 3) := by decide +kernel
theorem dX3_read_33 : decode cX3_read 33 = .ok (.iload_n 3, 1) := by decide +kernel
theorem dX3_read_34 : decode cX3_read 34 = .ok (.ireturn, 1) := by decide +kernel
theorem dX3_read_35 : decode cX3_read 35 = .ok (.iinc 3 1, 3) := by decide +kernel
theorem dX3_read_38 : decode cX3_read 38 = .ok (.goto (-27), 3) := by decide +kernel
theorem dX3_read_41 : decode cX3_read 41 = .ok (.aload_n 0, 1) := by decide +kernel
theorem dX3_read_42 : decode cX3_read 42 = .ok (.getfield 16, 3) := by decide +kernel
theorem dX3_read_45 : decode cX3_read 45 = .ok (.ifCond .ne 8, 3) := by decide +kernel
theorem dX3_read_48 : decode cX3_read 48 = .ok (.bipush (-9), 2) := by decide +kernel
theorem dX3_read_50 : decode cX3_read 50 = .ok (.goto 7, 3) := by decide +kernel
theorem dX3_read_53 : decode cX3_read 53 = .ok (.aload_n 1, 1) := by decide +kernel
theorem dX3_read_54 : decode cX3_read 54 = .ok (.getfield 20, 3) := by decide +kernel
theorem dX3_read_57 : decode cX3_read 57 = .ok (.ireturn, 1) := by decide +kernel
theorem dX3_takes_0 : decode cX3_takes 0 = .ok (.aload_n 0, 1) := by decide +kernel
theorem dX3_takes_1 : decode cX3_takes 1 = .ok (.getfield 16, 3) := by decide +kernel
theorem dX3_takes_4 : decode cX3_takes 4 = .ok (.ifCond .ne 10, 3) := by decide +kernel
theorem dX3_takes_7 : decode cX3_takes 7 = .ok (.aload_n 0, 1) := by decide +kernel
theorem dX3_takes_8 : decode cX3_takes 8 = .ok (.iload_n 1, 1) := by decide +kernel
theorem dX3_takes_9 : decode cX3_takes 9 = .ok (.aload_n 2, 1) := by decide +kernel
theorem dX3_takes_10 : decode cX3_takes 10 = .ok (.invokevirtual 33, 3) := by decide +kernel
theorem dX3_takes_13 : decode cX3_takes 13 = .ok (.ireturn, 1) := by decide +kernel
theorem dX3_takes_14 : decode cX3_takes 14 = .ok (.iload_n 1, 1) := by decide +kernel
theorem dX3_takes_15 : decode cX3_takes 15 = .ok (.bipush 48, 2) := by decide +kernel
theorem dX3_takes_17 : decode cX3_takes 17 = .ok (.if_icmp .lt 9, 3) := by decide +kernel
theorem dX3_takes_20 : decode cX3_takes 20 = .ok (.iload_n 1, 1) := by decide +kernel
theorem dX3_takes_21 : decode cX3_takes 21 = .ok (.bipush 57, 2) := by decide +kernel
theorem dX3_takes_23 : decode cX3_takes 23 = .ok (.if_icmp .le 5, 3) := by decide +kernel
theorem dX3_takes_26 : decode cX3_takes 26 = .ok (.iconst 0, 1) := by decide +kernel
theorem dX3_takes_27 : decode cX3_takes 27 = .ok (.ireturn, 1) := by decide +kernel
theorem dX3_takes_28 : decode cX3_takes 28 = .ok (.iload_n 1, 1) := by decide +kernel
theorem dX3_takes_29 : decode cX3_takes 29 = .ok (.bipush 48, 2) := by decide +kernel
theorem dX3_takes_31 : decode cX3_takes 31 = .ok (.isub, 1) := by decide +kernel
theorem dX3_takes_32 : decode cX3_takes 32 = .ok (.istore_n 3, 1) := by decide +kernel
theorem dX3_takes_33 : decode cX3_takes 33 = .ok (.aload_n 0, 1) := by decide +kernel
theorem dX3_takes_34 : decode cX3_takes 34 = .ok (.dup, 1) := by decide +kernel
theorem dX3_takes_35 : decode cX3_takes 35 = .ok (.getfield 36, 3) := by decide +kernel
theorem dX3_takes_38 : decode cX3_takes 38 = .ok (.iconst 1, 1) := by decide +kernel
theorem dX3_takes_39 : decode cX3_takes 39 = .ok (.iadd, 1) := by decide +kernel
theorem dX3_takes_40 : decode cX3_takes 40 = .ok (.putfield 36, 3) := by decide +kernel
theorem dX3_takes_43 : decode cX3_takes 43 = .ok (.aload_n 0, 1) := by decide +kernel
theorem dX3_takes_44 : decode cX3_takes 44 = .ok (.getfield 16, 3) := by decide +kernel
theorem dX3_takes_47 : decode cX3_takes 47 = .ok (.bipush 65, 2) := by decide +kernel
theorem dX3_takes_49 : decode cX3_takes 49 = .ok (.if_icmp .ne 10, 3) := by decide +kernel
theorem dX3_takes_52 : decode cX3_takes 52 = .ok (.aload_n 0, 1) := by decide +kernel
theorem dX3_takes_53 : decode cX3_takes 53 = .ok (.iload_n 3, 1) := by decide +kernel
theorem dX3_takes_54 : decode cX3_takes 54 = .ok (.aload_n 2, 1) := by decide +kernel
theorem dX3_takes_55 : decode cX3_takes 55 = .ok (.invokevirtual 39, 3) := by decide +kernel
theorem dX3_takes_58 : decode cX3_takes 58 = .ok (.ireturn, 1) := by decide +kernel
theorem dX3_takes_59 : decode cX3_takes 59 = .ok (.aload_n 0, 1) := by decide +kernel
theorem dX3_takes_60 : decode cX3_takes 60 = .ok (.getfield 16, 3) := by decide +kernel
theorem dX3_takes_63 : decode cX3_takes 63 = .ok (.bipush 67, 2) := by decide +kernel
theorem dX3_takes_65 : decode cX3_takes 65 = .ok (.if_icmp .ne 12, 3) := by decide +kernel
theorem dX3_takes_68 : decode cX3_takes 68 = .ok (.aload_n 0, 1) := by decide +kernel
theorem dX3_takes_69 : decode cX3_takes 69 = .ok (.iload_n 3, 1) := by decide +kernel
theorem dX3_takes_70 : decode cX3_takes 70 = .ok (.aload_n 2, 1) := by decide +kernel
theorem dX3_takes_71 : decode cX3_takes 71 = .ok (.invokevirtual 42, 3) := by decide +kernel
theorem dX3_takes_74 : decode cX3_takes 74 = .ok (.goto 9, 3) := by decide +kernel
theorem dX3_takes_77 : decode cX3_takes 77 = .ok (.aload_n 0, 1) := by decide +kernel
theorem dX3_takes_78 : decode cX3_takes 78 = .ok (.iload_n 3, 1) := by decide +kernel
theorem dX3_takes_79 : decode cX3_takes 79 = .ok (.aload_n 2, 1) := by decide +kernel
theorem dX3_takes_80 : decode cX3_takes 80 = .ok (.invokevirtual 45, 3) := by decide +kernel
theorem dX3_takes_83 : decode cX3_takes 83 = .ok (.ireturn, 1) := by decide +kernel
theorem dX3_opens_0 : decode cX3_opens 0 = .ok (.aload_n 0, 1) := by decide +kernel
theorem dX3_opens_1 : decode cX3_opens 1 = .ok (.iload_n 1, 1) := by decide +kernel
theorem dX3_opens_2 : decode cX3_opens 2 = .ok (.putfield 16, 3) := by decide +kernel
theorem dX3_opens_5 : decode cX3_opens 5 = .ok (.aload_n 0, 1) := by decide +kernel
theorem dX3_opens_6 : decode cX3_opens 6 = .ok (.iconst 0, 1) := by decide +kernel
theorem dX3_opens_7 : decode cX3_opens 7 = .ok (.putfield 36, 3) := by decide +kernel
theorem dX3_opens_10 : decode cX3_opens 10 = .ok (.aload_n 0, 1) := by decide +kernel
theorem dX3_opens_11 : decode cX3_opens 11 = .ok (.iconst 0, 1) := by decide +kernel
theorem dX3_opens_12 : decode cX3_opens 12 = .ok (.putfield 48, 3) := by decide +kernel
theorem dX3_opens_15 : decode cX3_opens 15 = .ok (.iload_n 1, 1) := by decide +kernel
theorem dX3_opens_16 : decode cX3_opens 16 = .ok (.bipush 65, 2) := by decide +kernel
theorem dX3_opens_18 : decode cX3_opens 18 = .ok (.if_icmp .ne 18, 3) := by decide +kernel
theorem dX3_opens_21 : decode cX3_opens 21 = .ok (.aload_n 2, 1) := by decide +kernel
theorem dX3_opens_22 : decode cX3_opens 22 = .ok (.getfield 51, 3) := by decide +kernel
theorem dX3_opens_25 : decode cX3_opens 25 = .ok (.bipush 6, 2) := by decide +kernel
theorem dX3_opens_27 : decode cX3_opens 27 = .ok (.if_icmp .ge 7, 3) := by decide +kernel
theorem dX3_opens_30 : decode cX3_opens 30 = .ok (.iconst 1, 1) := by decide +kernel
theorem dX3_opens_31 : decode cX3_opens 31 = .ok (.goto 4, 3) := by decide +kernel
theorem dX3_opens_34 : decode cX3_opens 34 = .ok (.iconst 0, 1) := by decide +kernel
theorem dX3_opens_35 : decode cX3_opens 35 = .ok (.ireturn, 1) := by decide +kernel
theorem dX3_opens_36 : decode cX3_opens 36 = .ok (.iload_n 1, 1) := by decide +kernel
theorem dX3_opens_37 : decode cX3_opens 37 = .ok (.bipush 67, 2) := by decide +kernel
theorem dX3_opens_39 : decode cX3_opens 39 = .ok (.if_icmp .ne 17, 3) := by decide +kernel
theorem dX3_opens_42 : decode cX3_opens 42 = .ok (.aload_n 2, 1) := by decide +kernel
theorem dX3_opens_43 : decode cX3_opens 43 = .ok (.getfield 54, 3) := by decide +kernel
theorem dX3_opens_46 : decode cX3_opens 46 = .ok (.iconst 4, 1) := by decide +kernel
theorem dX3_opens_47 : decode cX3_opens 47 = .ok (.if_icmp .ge 7, 3) := by decide +kernel
theorem dX3_opens_50 : decode cX3_opens 50 = .ok (.iconst 1, 1) := by decide +kernel
theorem dX3_opens_51 : decode cX3_opens 51 = .ok (.goto 4, 3) := by decide +kernel
theorem dX3_opens_54 : decode cX3_opens 54 = .ok (.iconst 0, 1) := by decide +kernel
theorem dX3_opens_55 : decode cX3_opens 55 = .ok (.ireturn, 1) := by decide +kernel
theorem dX3_opens_56 : decode cX3_opens 56 = .ok (.iload_n 1, 1) := by decide +kernel
theorem dX3_opens_57 : decode cX3_opens 57 = .ok (.bipush 78, 2) := by decide +kernel
theorem dX3_opens_59 : decode cX3_opens 59 = .ok (.if_icmp .ne 23, 3) := by decide +kernel
theorem dX3_opens_62 : decode cX3_opens 62 = .ok (.aload_n 2, 1) := by decide +kernel
theorem dX3_opens_63 : decode cX3_opens 63 = .ok (.getfield 57, 3) := by decide +kernel
theorem dX3_opens_66 : decode cX3_opens 66 = .ok (.aload_n 2, 1) := by decide +kernel
theorem dX3_opens_67 : decode cX3_opens 67 = .ok (.getfield 51, 3) := by decide +kernel
theorem dX3_opens_70 : decode cX3_opens 70 = .ok (.aload_n 2, 1) := by decide +kernel
theorem dX3_opens_71 : decode cX3_opens 71 = .ok (.getfield 54, 3) := by decide +kernel
theorem dX3_opens_74 : decode cX3_opens 74 = .ok (.imul, 1) := by decide +kernel
theorem dX3_opens_75 : decode cX3_opens 75 = .ok (.if_icmp .ge 7, 3) := by decide +kernel
theorem dX3_opens_78 : decode cX3_opens 78 = .ok (.iconst 1, 1) := by decide +kernel
theorem dX3_opens_79 : decode cX3_opens 79 = .ok (.goto 4, 3) := by decide +kernel
theorem dX3_opens_82 : decode cX3_opens 82 = .ok (.iconst 0, 1) := by decide +kernel
theorem dX3_opens_83 : decode cX3_opens 83 = .ok (.ireturn, 1) := by decide +kernel
theorem dX3_takesOfPerson_0 : decode cX3_takesOfPerson 0 = .ok (.aload_n 0, 1) := by decide +kernel
theorem dX3_takesOfPerson_1 : decode cX3_takesOfPerson 1 = .ok (.aload_n 0, 1) := by decide +kernel
theorem dX3_takesOfPerson_2 : decode cX3_takesOfPerson 2 = .ok (.getfield 48, 3) := by decide +kernel
theorem dX3_takesOfPerson_5 : decode cX3_takesOfPerson 5 = .ok (.bipush 10, 2) := by decide +kernel
theorem dX3_takesOfPerson_7 : decode cX3_takesOfPerson 7 = .ok (.imul, 1) := by decide +kernel
theorem dX3_takesOfPerson_8 : decode cX3_takesOfPerson 8 = .ok (.iload_n 1, 1) := by decide +kernel
theorem dX3_takesOfPerson_9 : decode cX3_takesOfPerson 9 = .ok (.iadd, 1) := by decide +kernel
theorem dX3_takesOfPerson_10 : decode cX3_takesOfPerson 10 = .ok (.putfield 48, 3) := by decide +kernel
theorem dX3_takesOfPerson_13 : decode cX3_takesOfPerson 13 = .ok (.aload_n 0, 1) := by decide +kernel
theorem dX3_takesOfPerson_14 : decode cX3_takesOfPerson 14 = .ok (.getfield 36, 3) := by decide +kernel
theorem dX3_takesOfPerson_17 : decode cX3_takesOfPerson 17 = .ok (.iconst 2, 1) := by decide +kernel
theorem dX3_takesOfPerson_18 : decode cX3_takesOfPerson 18 = .ok (.if_icmp .ne 36, 3) := by decide +kernel
theorem dX3_takesOfPerson_21 : decode cX3_takesOfPerson 21 = .ok (.aload_n 2, 1) := by decide +kernel
theorem dX3_takesOfPerson_22 : decode cX3_takesOfPerson 22 = .ok (.getfield 60, 3) := by decide +kernel
theorem dX3_takesOfPerson_25 : decode cX3_takesOfPerson 25 = .ok (.aload_n 2, 1) := by decide +kernel
theorem dX3_takesOfPerson_26 : decode cX3_takesOfPerson 26 = .ok (.getfield 51, 3) := by decide +kernel
theorem dX3_takesOfPerson_29 : decode cX3_takesOfPerson 29 = .ok (.aload_n 0, 1) := by decide +kernel
theorem dX3_takesOfPerson_30 : decode cX3_takesOfPerson 30 = .ok (.getfield 48, 3) := by decide +kernel
theorem dX3_takesOfPerson_33 : decode cX3_takesOfPerson 33 = .ok (.iastore, 1) := by decide +kernel
theorem dX3_takesOfPerson_34 : decode cX3_takesOfPerson 34 = .ok (.aload_n 0, 1) := by decide +kernel
theorem dX3_takesOfPerson_35 : decode cX3_takesOfPerson 35 = .ok (.getfield 48, 3) := by decide +kernel
theorem dX3_takesOfPerson_38 : decode cX3_takesOfPerson 38 = .ok (.ifCond .le 7, 3) := by decide +kernel
theorem dX3_takesOfPerson_41 : decode cX3_takesOfPerson 41 = .ok (.iconst 1, 1) := by decide +kernel
theorem dX3_takesOfPerson_42 : decode cX3_takesOfPerson 42 = .ok (.goto 4, 3) := by decide +kernel
theorem dX3_takesOfPerson_45 : decode cX3_takesOfPerson 45 = .ok (.iconst 0, 1) := by decide +kernel
theorem dX3_takesOfPerson_46 : decode cX3_takesOfPerson 46 = .ok (.istore_n 3, 1) := by decide +kernel
theorem dX3_takesOfPerson_47 : decode cX3_takesOfPerson 47 = .ok (.aload_n 0, 1) := by decide +kernel
theorem dX3_takesOfPerson_48 : decode cX3_takesOfPerson 48 = .ok (.iconst 0, 1) := by decide +kernel
theorem dX3_takesOfPerson_49 : decode cX3_takesOfPerson 49 = .ok (.putfield 48, 3) := by decide +kernel
theorem dX3_takesOfPerson_52 : decode cX3_takesOfPerson 52 = .ok (.iload_n 3, 1) := by decide +kernel
theorem dX3_takesOfPerson_53 : decode cX3_takesOfPerson 53 = .ok (.ireturn, 1) := by decide +kernel
theorem dX3_takesOfPerson_54 : decode cX3_takesOfPerson 54 = .ok (.aload_n 0, 1) := by decide +kernel
theorem dX3_takesOfPerson_55 : decode cX3_takesOfPerson 55 = .ok (.getfield 36, 3) := by decide +kernel
theorem dX3_takesOfPerson_58 : decode cX3_takesOfPerson 58 = .ok (.iconst 4, 1) := by decide +kernel
theorem dX3_takesOfPerson_59 : decode cX3_takesOfPerson 59 = .ok (.if_icmp .ne 31, 3) := by decide +kernel
theorem dX3_takesOfPerson_62 : decode cX3_takesOfPerson 62 = .ok (.aload_n 2, 1) := by decide +kernel
theorem dX3_takesOfPerson_63 : decode cX3_takesOfPerson 63 = .ok (.getfield 63, 3) := by decide +kernel
theorem dX3_takesOfPerson_66 : decode cX3_takesOfPerson 66 = .ok (.aload_n 2, 1) := by decide +kernel
theorem dX3_takesOfPerson_67 : decode cX3_takesOfPerson 67 = .ok (.getfield 51, 3) := by decide +kernel
theorem dX3_takesOfPerson_70 : decode cX3_takesOfPerson 70 = .ok (.aload_n 0, 1) := by decide +kernel
theorem dX3_takesOfPerson_71 : decode cX3_takesOfPerson 71 = .ok (.getfield 48, 3) := by decide +kernel
theorem dX3_takesOfPerson_74 : decode cX3_takesOfPerson 74 = .ok (.iastore, 1) := by decide +kernel
theorem dX3_takesOfPerson_75 : decode cX3_takesOfPerson 75 = .ok (.aload_n 2, 1) := by decide +kernel
theorem dX3_takesOfPerson_76 : decode cX3_takesOfPerson 76 = .ok (.dup, 1) := by decide +kernel
theorem dX3_takesOfPerson_77 : decode cX3_takesOfPerson 77 = .ok (.getfield 51, 3) := by decide +kernel
theorem dX3_takesOfPerson_80 : decode cX3_takesOfPerson 80 = .ok (.iconst 1, 1) := by decide +kernel
theorem dX3_takesOfPerson_81 : decode cX3_takesOfPerson 81 = .ok (.iadd, 1) := by decide +kernel
theorem dX3_takesOfPerson_82 : decode cX3_takesOfPerson 82 = .ok (.putfield 51, 3) := by decide +kernel
theorem dX3_takesOfPerson_85 : decode cX3_takesOfPerson 85 = .ok (.aload_n 0, 1) := by decide +kernel
theorem dX3_takesOfPerson_86 : decode cX3_takesOfPerson 86 = .ok (.iconst 0, 1) := by decide +kernel
theorem dX3_takesOfPerson_87 : decode cX3_takesOfPerson 87 = .ok (.putfield 16, 3) := by decide +kernel
theorem dX3_takesOfPerson_90 : decode cX3_takesOfPerson 90 = .ok (.iconst 1, 1) := by decide +kernel
theorem dX3_takesOfPerson_91 : decode cX3_takesOfPerson 91 = .ok (.ireturn, 1) := by decide +kernel
theorem dX3_takesOfCounter_0 : decode cX3_takesOfCounter 0 = .ok (.aload_n 0, 1) := by decide +kernel
theorem dX3_takesOfCounter_1 : decode cX3_takesOfCounter 1 = .ok (.aload_n 0, 1) := by decide +kernel
theorem dX3_takesOfCounter_2 : decode cX3_takesOfCounter 2 = .ok (.getfield 48, 3) := by decide +kernel
theorem dX3_takesOfCounter_5 : decode cX3_takesOfCounter 5 = .ok (.bipush 10, 2) := by decide +kernel
theorem dX3_takesOfCounter_7 : decode cX3_takesOfCounter 7 = .ok (.imul, 1) := by decide +kernel
theorem dX3_takesOfCounter_8 : decode cX3_takesOfCounter 8 = .ok (.iload_n 1, 1) := by decide +kernel
theorem dX3_takesOfCounter_9 : decode cX3_takesOfCounter 9 = .ok (.iadd, 1) := by decide +kernel
theorem dX3_takesOfCounter_10 : decode cX3_takesOfCounter 10 = .ok (.putfield 48, 3) := by decide +kernel
theorem dX3_takesOfCounter_13 : decode cX3_takesOfCounter 13 = .ok (.aload_n 0, 1) := by decide +kernel
theorem dX3_takesOfCounter_14 : decode cX3_takesOfCounter 14 = .ok (.getfield 36, 3) := by decide +kernel
theorem dX3_takesOfCounter_17 : decode cX3_takesOfCounter 17 = .ok (.iconst 2, 1) := by decide +kernel
theorem dX3_takesOfCounter_18 : decode cX3_takesOfCounter 18 = .ok (.if_icmp .ne 36, 3) := by decide +kernel
theorem dX3_takesOfCounter_21 : decode cX3_takesOfCounter 21 = .ok (.aload_n 2, 1) := by decide +kernel
theorem dX3_takesOfCounter_22 : decode cX3_takesOfCounter 22 = .ok (.getfield 66, 3) := by decide +kernel
theorem dX3_takesOfCounter_25 : decode cX3_takesOfCounter 25 = .ok (.aload_n 2, 1) := by decide +kernel
theorem dX3_takesOfCounter_26 : decode cX3_takesOfCounter 26 = .ok (.getfield 54, 3) := by decide +kernel
theorem dX3_takesOfCounter_29 : decode cX3_takesOfCounter 29 = .ok (.aload_n 0, 1) := by decide +kernel
theorem dX3_takesOfCounter_30 : decode cX3_takesOfCounter 30 = .ok (.getfield 48, 3) := by decide +kernel
theorem dX3_takesOfCounter_33 : decode cX3_takesOfCounter 33 = .ok (.iastore, 1) := by decide +kernel
theorem dX3_takesOfCounter_34 : decode cX3_takesOfCounter 34 = .ok (.aload_n 0, 1) := by decide +kernel
theorem dX3_takesOfCounter_35 : decode cX3_takesOfCounter 35 = .ok (.getfield 48, 3) := by decide +kernel
theorem dX3_takesOfCounter_38 : decode cX3_takesOfCounter 38 = .ok (.ifCond .le 7, 3) := by decide +kernel
theorem dX3_takesOfCounter_41 : decode cX3_takesOfCounter 41 = .ok (.iconst 1, 1) := by decide +kernel
theorem dX3_takesOfCounter_42 : decode cX3_takesOfCounter 42 = .ok (.goto 4, 3) := by decide +kernel
theorem dX3_takesOfCounter_45 : decode cX3_takesOfCounter 45 = .ok (.iconst 0, 1) := by decide +kernel
theorem dX3_takesOfCounter_46 : decode cX3_takesOfCounter 46 = .ok (.istore_n 3, 1) := by decide +kernel
theorem dX3_takesOfCounter_47 : decode cX3_takesOfCounter 47 = .ok (.aload_n 0, 1) := by decide +kernel
theorem dX3_takesOfCounter_48 : decode cX3_takesOfCounter 48 = .ok (.iconst 0, 1) := by decide +kernel
theorem dX3_takesOfCounter_49 : decode cX3_takesOfCounter 49 = .ok (.putfield 48, 3) := by decide +kernel
theorem dX3_takesOfCounter_52 : decode cX3_takesOfCounter 52 = .ok (.iload_n 3, 1) := by decide +kernel
theorem dX3_takesOfCounter_53 : decode cX3_takesOfCounter 53 = .ok (.ireturn, 1) := by decide +kernel
theorem dX3_takesOfCounter_54 : decode cX3_takesOfCounter 54 = .ok (.aload_n 0, 1) := by decide +kernel
theorem dX3_takesOfCounter_55 : decode cX3_takesOfCounter 55 = .ok (.getfield 36, 3) := by decide +kernel
theorem dX3_takesOfCounter_58 : decode cX3_takesOfCounter 58 = .ok (.bipush 6, 2) := by decide +kernel
theorem dX3_takesOfCounter_60 : decode cX3_takesOfCounter 60 = .ok (.if_icmp .ne 31, 3) := by decide +kernel
theorem dX3_takesOfCounter_63 : decode cX3_takesOfCounter 63 = .ok (.aload_n 2, 1) := by decide +kernel
theorem dX3_takesOfCounter_64 : decode cX3_takesOfCounter 64 = .ok (.getfield 69, 3) := by decide +kernel
theorem dX3_takesOfCounter_67 : decode cX3_takesOfCounter 67 = .ok (.aload_n 2, 1) := by decide +kernel
theorem dX3_takesOfCounter_68 : decode cX3_takesOfCounter 68 = .ok (.getfield 54, 3) := by decide +kernel
theorem dX3_takesOfCounter_71 : decode cX3_takesOfCounter 71 = .ok (.aload_n 0, 1) := by decide +kernel
theorem dX3_takesOfCounter_72 : decode cX3_takesOfCounter 72 = .ok (.getfield 48, 3) := by decide +kernel
theorem dX3_takesOfCounter_75 : decode cX3_takesOfCounter 75 = .ok (.iastore, 1) := by decide +kernel
theorem dX3_takesOfCounter_76 : decode cX3_takesOfCounter 76 = .ok (.aload_n 2, 1) := by decide +kernel
theorem dX3_takesOfCounter_77 : decode cX3_takesOfCounter 77 = .ok (.dup, 1) := by decide +kernel
theorem dX3_takesOfCounter_78 : decode cX3_takesOfCounter 78 = .ok (.getfield 54, 3) := by decide +kernel
theorem dX3_takesOfCounter_81 : decode cX3_takesOfCounter 81 = .ok (.iconst 1, 1) := by decide +kernel
theorem dX3_takesOfCounter_82 : decode cX3_takesOfCounter 82 = .ok (.iadd, 1) := by decide +kernel
theorem dX3_takesOfCounter_83 : decode cX3_takesOfCounter 83 = .ok (.putfield 54, 3) := by decide +kernel
theorem dX3_takesOfCounter_86 : decode cX3_takesOfCounter 86 = .ok (.aload_n 0, 1) := by decide +kernel
theorem dX3_takesOfCounter_87 : decode cX3_takesOfCounter 87 = .ok (.iconst 0, 1) := by decide +kernel
theorem dX3_takesOfCounter_88 : decode cX3_takesOfCounter 88 = .ok (.putfield 16, 3) := by decide +kernel
theorem dX3_takesOfCounter_91 : decode cX3_takesOfCounter 91 = .ok (.iconst 1, 1) := by decide +kernel
theorem dX3_takesOfCounter_92 : decode cX3_takesOfCounter 92 = .ok (.ireturn, 1) := by decide +kernel
theorem dX3_takesOfBar_0 : decode cX3_takesOfBar 0 = .ok (.aload_n 0, 1) := by decide +kernel
theorem dX3_takesOfBar_1 : decode cX3_takesOfBar 1 = .ok (.getfield 36, 3) := by decide +kernel
theorem dX3_takesOfBar_4 : decode cX3_takesOfBar 4 = .ok (.iconst 1, 1) := by decide +kernel
theorem dX3_takesOfBar_5 : decode cX3_takesOfBar 5 = .ok (.if_icmp .ne 38, 3) := by decide +kernel
theorem dX3_takesOfBar_8 : decode cX3_takesOfBar 8 = .ok (.aload_n 0, 1) := by decide +kernel
theorem dX3_takesOfBar_9 : decode cX3_takesOfBar 9 = .ok (.iload_n 1, 1) := by decide +kernel
theorem dX3_takesOfBar_10 : decode cX3_takesOfBar 10 = .ok (.putfield 72, 3) := by decide +kernel
theorem dX3_takesOfBar_13 : decode cX3_takesOfBar 13 = .ok (.aload_n 2, 1) := by decide +kernel
theorem dX3_takesOfBar_14 : decode cX3_takesOfBar 14 = .ok (.iload_n 1, 1) := by decide +kernel
theorem dX3_takesOfBar_15 : decode cX3_takesOfBar 15 = .ok (.invokevirtual 75, 3) := by decide +kernel
theorem dX3_takesOfBar_18 : decode cX3_takesOfBar 18 = .ok (.ifCond .eq 23, 3) := by decide +kernel
theorem dX3_takesOfBar_21 : decode cX3_takesOfBar 21 = .ok (.aload_n 2, 1) := by decide +kernel
theorem dX3_takesOfBar_22 : decode cX3_takesOfBar 22 = .ok (.getfield 79, 3) := by decide +kernel
theorem dX3_takesOfBar_25 : decode cX3_takesOfBar 25 = .ok (.iload_n 1, 1) := by decide +kernel
theorem dX3_takesOfBar_26 : decode cX3_takesOfBar 26 = .ok (.iaload, 1) := by decide +kernel
theorem dX3_takesOfBar_27 : decode cX3_takesOfBar 27 = .ok (.invokestatic 82, 3) := by decide +kernel
theorem dX3_takesOfBar_30 : decode cX3_takesOfBar 30 = .ok (.aload_n 2, 1) := by decide +kernel
theorem dX3_takesOfBar_31 : decode cX3_takesOfBar 31 = .ok (.getfield 54, 3) := by decide +kernel
theorem dX3_takesOfBar_34 : decode cX3_takesOfBar 34 = .ok (.if_icmp .ge 7, 3) := by decide +kernel
theorem dX3_takesOfBar_37 : decode cX3_takesOfBar 37 = .ok (.iconst 1, 1) := by decide +kernel
theorem dX3_takesOfBar_38 : decode cX3_takesOfBar 38 = .ok (.goto 4, 3) := by decide +kernel
theorem dX3_takesOfBar_41 : decode cX3_takesOfBar 41 = .ok (.iconst 0, 1) := by decide +kernel
theorem dX3_takesOfBar_42 : decode cX3_takesOfBar 42 = .ok (.ireturn, 1) := by decide +kernel
theorem dX3_takesOfBar_43 : decode cX3_takesOfBar 43 = .ok (.aload_n 2, 1) := by decide +kernel
theorem dX3_takesOfBar_44 : decode cX3_takesOfBar 44 = .ok (.iload_n 1, 1) := by decide +kernel
theorem dX3_takesOfBar_45 : decode cX3_takesOfBar 45 = .ok (.invokevirtual 88, 3) := by decide +kernel
theorem dX3_takesOfBar_48 : decode cX3_takesOfBar 48 = .ok (.ifCond .eq 15, 3) := by decide +kernel
theorem dX3_takesOfBar_51 : decode cX3_takesOfBar 51 = .ok (.aload_n 2, 1) := by decide +kernel
theorem dX3_takesOfBar_52 : decode cX3_takesOfBar 52 = .ok (.aload_n 0, 1) := by decide +kernel
theorem dX3_takesOfBar_53 : decode cX3_takesOfBar 53 = .ok (.getfield 72, 3) := by decide +kernel
theorem dX3_takesOfBar_56 : decode cX3_takesOfBar 56 = .ok (.iload_n 1, 1) := by decide +kernel
theorem dX3_takesOfBar_57 : decode cX3_takesOfBar 57 = .ok (.invokevirtual 91, 3) := by decide +kernel
theorem dX3_takesOfBar_60 : decode cX3_takesOfBar 60 = .ok (.ifCond .eq 5, 3) := by decide +kernel
theorem dX3_takesOfBar_63 : decode cX3_takesOfBar 63 = .ok (.iconst 0, 1) := by decide +kernel
theorem dX3_takesOfBar_64 : decode cX3_takesOfBar 64 = .ok (.ireturn, 1) := by decide +kernel
theorem dX3_takesOfBar_65 : decode cX3_takesOfBar 65 = .ok (.aload_n 2, 1) := by decide +kernel
theorem dX3_takesOfBar_66 : decode cX3_takesOfBar 66 = .ok (.getfield 79, 3) := by decide +kernel
theorem dX3_takesOfBar_69 : decode cX3_takesOfBar 69 = .ok (.aload_n 0, 1) := by decide +kernel
theorem dX3_takesOfBar_70 : decode cX3_takesOfBar 70 = .ok (.getfield 72, 3) := by decide +kernel
theorem dX3_takesOfBar_73 : decode cX3_takesOfBar 73 = .ok (.dup2, 1) := by decide +kernel
theorem dX3_takesOfBar_74 : decode cX3_takesOfBar 74 = .ok (.iaload, 1) := by decide +kernel
theorem dX3_takesOfBar_75 : decode cX3_takesOfBar 75 = .ok (.iconst 1, 1) := by decide +kernel
theorem dX3_takesOfBar_76 : decode cX3_takesOfBar 76 = .ok (.iload_n 1, 1) := by decide +kernel
theorem dX3_takesOfBar_77 : decode cX3_takesOfBar 77 = .ok (.ishl, 1) := by decide +kernel
theorem dX3_takesOfBar_78 : decode cX3_takesOfBar 78 = .ok (.ior, 1) := by decide +kernel
theorem dX3_takesOfBar_79 : decode cX3_takesOfBar 79 = .ok (.iastore, 1) := by decide +kernel
theorem dX3_takesOfBar_80 : decode cX3_takesOfBar 80 = .ok (.aload_n 2, 1) := by decide +kernel
theorem dX3_takesOfBar_81 : decode cX3_takesOfBar 81 = .ok (.dup, 1) := by decide +kernel
theorem dX3_takesOfBar_82 : decode cX3_takesOfBar 82 = .ok (.getfield 57, 3) := by decide +kernel
theorem dX3_takesOfBar_85 : decode cX3_takesOfBar 85 = .ok (.iconst 1, 1) := by decide +kernel
theorem dX3_takesOfBar_86 : decode cX3_takesOfBar 86 = .ok (.iadd, 1) := by decide +kernel
theorem dX3_takesOfBar_87 : decode cX3_takesOfBar 87 = .ok (.putfield 57, 3) := by decide +kernel
theorem dX3_takesOfBar_90 : decode cX3_takesOfBar 90 = .ok (.aload_n 0, 1) := by decide +kernel
theorem dX3_takesOfBar_91 : decode cX3_takesOfBar 91 = .ok (.iconst 0, 1) := by decide +kernel
theorem dX3_takesOfBar_92 : decode cX3_takesOfBar 92 = .ok (.putfield 16, 3) := by decide +kernel
theorem dX3_takesOfBar_95 : decode cX3_takesOfBar 95 = .ok (.iconst 1, 1) := by decide +kernel
theorem dX3_takesOfBar_96 : decode cX3_takesOfBar 96 = .ok (.ireturn, 1) := by decide +kernel
theorem dX4_init_0 : decode cX4_init 0 = .ok (.aload_n 0, 1) := by decide +kernel
theorem dX4_init_1 : decode cX4_init 1 = .ok (.invokespecial 3, 3) := by decide +kernel
theorem dX4_init_4 : decode cX4_init 4 = .ok (.aload_n 0, 1) := by decide +kernel
theorem dX4_init_5 : decode cX4_init 5 = .ok (.bipush 72, 2) := by decide +kernel
theorem dX4_init_7 : decode cX4_init 7 = .ok (.newarray .int, 2) := by decide +kernel
theorem dX4_init_9 : decode cX4_init 9 = .ok (.putfield 9, 3) := by decide +kernel
theorem dX4_init_12 : decode cX4_init 12 = .ok (.return_, 1) := by decide +kernel
theorem dX4_append_0 : decode cX4_append 0 = .ok (.iload_n 1, 1) := by decide +kernel
theorem dX4_append_1 : decode cX4_append 1 = .ok (.iconst 1, 1) := by decide +kernel
theorem dX4_append_2 : decode cX4_append 2 = .ok (.isub, 1) := by decide +kernel
theorem dX4_append_3 : decode cX4_append 3 = .ok (.istore 4, 2) := by decide +kernel
theorem dX4_append_5 : decode cX4_append 5 = .ok (.iload 4, 2) := by decide +kernel
theorem dX4_append_7 : decode cX4_append 7 = .ok (.ifCond .lt 49, 3) := by decide +kernel
theorem dX4_append_10 : decode cX4_append 10 = .ok (.aload_n 0, 1) := by decide +kernel
theorem dX4_append_11 : decode cX4_append 11 = .ok (.getfield 15, 3) := by decide +kernel
theorem dX4_append_14 : decode cX4_append 14 = .ok (.bipush 72, 2) := by decide +kernel
theorem dX4_append_16 : decode cX4_append 16 = .ok (.if_icmp .ge 40, 3) := by decide +kernel
theorem dX4_append_19 : decode cX4_append 19 = .ok (.aload_n 0, 1) := by decide +kernel
theorem dX4_append_20 : decode cX4_append 20 = .ok (.getfield 9, 3) := by decide +kernel
theorem dX4_append_23 : decode cX4_append 23 = .ok (.aload_n 0, 1) := by decide +kernel
theorem dX4_append_24 : decode cX4_append 24 = .ok (.getfield 15, 3) := by decide +kernel
theorem dX4_append_27 : decode cX4_append 27 = .ok (.lload_n 2, 1) := by decide +kernel
theorem dX4_append_28 : decode cX4_append 28 = .ok (.bipush 8, 2) := by decide +kernel
theorem dX4_append_30 : decode cX4_append 30 = .ok (.iload 4, 2) := by decide +kernel
theorem dX4_append_32 : decode cX4_append 32 = .ok (.imul, 1) := by decide +kernel
theorem dX4_append_33 : decode cX4_append 33 = .ok (.lushr, 1) := by decide +kernel
theorem dX4_append_34 : decode cX4_append 34 = .ok (.l2i, 1) := by decide +kernel
theorem dX4_append_35 : decode cX4_append 35 = .ok (.sipush 255, 3) := by decide +kernel
theorem dX4_append_38 : decode cX4_append 38 = .ok (.iand, 1) := by decide +kernel
theorem dX4_append_39 : decode cX4_append 39 = .ok (.iastore, 1) := by decide +kernel
theorem dX4_append_40 : decode cX4_append 40 = .ok (.aload_n 0, 1) := by decide +kernel
theorem dX4_append_41 : decode cX4_append 41 = .ok (.dup, 1) := by decide +kernel
theorem dX4_append_42 : decode cX4_append 42 = .ok (.getfield 15, 3) := by decide +kernel
theorem dX4_append_45 : decode cX4_append 45 = .ok (.iconst 1, 1) := by decide +kernel
theorem dX4_append_46 : decode cX4_append 46 = .ok (.iadd, 1) := by decide +kernel
theorem dX4_append_47 : decode cX4_append 47 = .ok (.putfield 15, 3) := by decide +kernel
theorem dX4_append_50 : decode cX4_append 50 = .ok (.iinc 4 (-1), 3) := by decide +kernel
theorem dX4_append_53 : decode cX4_append 53 = .ok (.goto (-48), 3) := by decide +kernel
theorem dX4_append_56 : decode cX4_append 56 = .ok (.return_, 1) := by decide +kernel
theorem dX5_init_0 : decode cX5_init 0 = .ok (.aload_n 0, 1) := by decide +kernel
theorem dX5_init_1 : decode cX5_init 1 = .ok (.invokespecial 3, 3) := by decide +kernel
theorem dX5_init_4 : decode cX5_init 4 = .ok (.aload_n 0, 1) := by decide +kernel
theorem dX5_init_5 : decode cX5_init 5 = .ok (.bipush 6, 2) := by decide +kernel
theorem dX5_init_7 : decode cX5_init 7 = .ok (.newarray .int, 2) := by decide +kernel
theorem dX5_init_9 : decode cX5_init 9 = .ok (.putfield 9, 3) := by decide +kernel
theorem dX5_init_12 : decode cX5_init 12 = .ok (.aload_n 0, 1) := by decide +kernel
theorem dX5_init_13 : decode cX5_init 13 = .ok (.iconst 4, 1) := by decide +kernel
theorem dX5_init_14 : decode cX5_init 14 = .ok (.newarray .int, 2) := by decide +kernel
theorem dX5_init_16 : decode cX5_init 16 = .ok (.putfield 15, 3) := by decide +kernel
theorem dX5_init_19 : decode cX5_init 19 = .ok (.aload_n 0, 1) := by decide +kernel
theorem dX5_init_20 : decode cX5_init 20 = .ok (.bipush 12, 2) := by decide +kernel
theorem dX5_init_22 : decode cX5_init 22 = .ok (.newarray .int, 2) := by decide +kernel
theorem dX5_init_24 : decode cX5_init 24 = .ok (.putfield 18, 3) := by decide +kernel
theorem dX5_init_27 : decode cX5_init 27 = .ok (.aload_n 0, 1) := by decide +kernel
theorem dX5_init_28 : decode cX5_init 28 = .ok (.bipush 12, 2) := by decide +kernel
theorem dX5_init_30 : decode cX5_init 30 = .ok (.newarray .int, 2) := by decide +kernel
theorem dX5_init_32 : decode cX5_init 32 = .ok (.putfield 21, 3) := by decide +kernel
theorem dX5_init_35 : decode cX5_init 35 = .ok (.aload_n 0, 1) := by decide +kernel
theorem dX5_init_36 : decode cX5_init 36 = .ok (.bipush 12, 2) := by decide +kernel
theorem dX5_init_38 : decode cX5_init 38 = .ok (.newarray .int, 2) := by decide +kernel
theorem dX5_init_40 : decode cX5_init 40 = .ok (.putfield 24, 3) := by decide +kernel
theorem dX5_init_43 : decode cX5_init 43 = .ok (.aload_n 0, 1) := by decide +kernel
theorem dX5_init_44 : decode cX5_init 44 = .ok (.bipush 12, 2) := by decide +kernel
theorem dX5_init_46 : decode cX5_init 46 = .ok (.newarray .int, 2) := by decide +kernel
theorem dX5_init_48 : decode cX5_init 48 = .ok (.putfield 27, 3) := by decide +kernel
theorem dX5_init_51 : decode cX5_init 51 = .ok (.aload_n 0, 1) := by decide +kernel
theorem dX5_init_52 : decode cX5_init 52 = .ok (.bipush 30, 2) := by decide +kernel
theorem dX5_init_54 : decode cX5_init 54 = .ok (.putfield 30, 3) := by decide +kernel
theorem dX5_init_57 : decode cX5_init 57 = .ok (.return_, 1) := by decide +kernel
theorem dX5_begin_0 : decode cX5_begin 0 = .ok (.aload_n 1, 1) := by decide +kernel
theorem dX5_begin_1 : decode cX5_begin 1 = .ok (.getfield 34, 3) := by decide +kernel
theorem dX5_begin_4 : decode cX5_begin 4 = .ok (.iconst 0, 1) := by decide +kernel
theorem dX5_begin_5 : decode cX5_begin 5 = .ok (.aload_n 0, 1) := by decide +kernel
theorem dX5_begin_6 : decode cX5_begin 6 = .ok (.getfield 9, 3) := by decide +kernel
theorem dX5_begin_9 : decode cX5_begin 9 = .ok (.iconst 0, 1) := by decide +kernel
theorem dX5_begin_10 : decode cX5_begin 10 = .ok (.bipush 6, 2) := by decide +kernel
theorem dX5_begin_12 : decode cX5_begin 12 = .ok (.invokestatic 37, 3) := by decide +kernel
theorem dX5_begin_15 : decode cX5_begin 15 = .ok (.aload_n 1, 1) := by decide +kernel
theorem dX5_begin_16 : decode cX5_begin 16 = .ok (.getfield 43, 3) := by decide +kernel
theorem dX5_begin_19 : decode cX5_begin 19 = .ok (.iconst 0, 1) := by decide +kernel
theorem dX5_begin_20 : decode cX5_begin 20 = .ok (.aload_n 0, 1) := by decide +kernel
theorem dX5_begin_21 : decode cX5_begin 21 = .ok (.getfield 15, 3) := by decide +kernel
theorem dX5_begin_24 : decode cX5_begin 24 = .ok (.iconst 0, 1) := by decide +kernel
theorem dX5_begin_25 : decode cX5_begin 25 = .ok (.iconst 4, 1) := by decide +kernel
theorem dX5_begin_26 : decode cX5_begin 26 = .ok (.invokestatic 37, 3) := by decide +kernel
theorem dX5_begin_29 : decode cX5_begin 29 = .ok (.aload_n 0, 1) := by decide +kernel
theorem dX5_begin_30 : decode cX5_begin 30 = .ok (.iconst 0, 1) := by decide +kernel
theorem dX5_begin_31 : decode cX5_begin 31 = .ok (.putfield 44, 3) := by decide +kernel
theorem dX5_begin_34 : decode cX5_begin 34 = .ok (.return_, 1) := by decide +kernel
theorem dX5_takeFrom_0 : decode cX5_takeFrom 0 = .ok (.aload_n 1, 1) := by decide +kernel
theorem dX5_takeFrom_1 : decode cX5_takeFrom 1 = .ok (.getfield 9, 3) := by decide +kernel
theorem dX5_takeFrom_4 : decode cX5_takeFrom 4 = .ok (.iconst 0, 1) := by decide +kernel
theorem dX5_takeFrom_5 : decode cX5_takeFrom 5 = .ok (.aload_n 0, 1) := by decide +kernel
theorem dX5_takeFrom_6 : decode cX5_takeFrom 6 = .ok (.getfield 9, 3) := by decide +kernel
theorem dX5_takeFrom_9 : decode cX5_takeFrom 9 = .ok (.iconst 0, 1) := by decide +kernel
theorem dX5_takeFrom_10 : decode cX5_takeFrom 10 = .ok (.bipush 6, 2) := by decide +kernel
theorem dX5_takeFrom_12 : decode cX5_takeFrom 12 = .ok (.invokestatic 37, 3) := by decide +kernel
theorem dX5_takeFrom_15 : decode cX5_takeFrom 15 = .ok (.aload_n 1, 1) := by decide +kernel
theorem dX5_takeFrom_16 : decode cX5_takeFrom 16 = .ok (.getfield 15, 3) := by decide +kernel
theorem dX5_takeFrom_19 : decode cX5_takeFrom 19 = .ok (.iconst 0, 1) := by decide +kernel
theorem dX5_takeFrom_20 : decode cX5_takeFrom 20 = .ok (.aload_n 0, 1) := by decide +kernel
theorem dX5_takeFrom_21 : decode cX5_takeFrom 21 = .ok (.getfield 15, 3) := by decide +kernel
theorem dX5_takeFrom_24 : decode cX5_takeFrom 24 = .ok (.iconst 0, 1) := by decide +kernel
theorem dX5_takeFrom_25 : decode cX5_takeFrom 25 = .ok (.iconst 4, 1) := by decide +kernel
theorem dX5_takeFrom_26 : decode cX5_takeFrom 26 = .ok (.invokestatic 37, 3) := by decide +kernel
theorem dX5_takeFrom_29 : decode cX5_takeFrom 29 = .ok (.aload_n 1, 1) := by decide +kernel
theorem dX5_takeFrom_30 : decode cX5_takeFrom 30 = .ok (.getfield 18, 3) := by decide +kernel
theorem dX5_takeFrom_33 : decode cX5_takeFrom 33 = .ok (.iconst 0, 1) := by decide +kernel
theorem dX5_takeFrom_34 : decode cX5_takeFrom 34 = .ok (.aload_n 0, 1) := by decide +kernel
theorem dX5_takeFrom_35 : decode cX5_takeFrom 35 = .ok (.getfield 18, 3) := by decide +kernel
theorem dX5_takeFrom_38 : decode cX5_takeFrom 38 = .ok (.iconst 0, 1) := by decide +kernel
theorem dX5_takeFrom_39 : decode cX5_takeFrom 39 = .ok (.bipush 12, 2) := by decide +kernel
theorem dX5_takeFrom_41 : decode cX5_takeFrom 41 = .ok (.invokestatic 37, 3) := by decide +kernel
theorem dX5_takeFrom_44 : decode cX5_takeFrom 44 = .ok (.aload_n 1, 1) := by decide +kernel
theorem dX5_takeFrom_45 : decode cX5_takeFrom 45 = .ok (.getfield 21, 3) := by decide +kernel
theorem dX5_takeFrom_48 : decode cX5_takeFrom 48 = .ok (.iconst 0, 1) := by decide +kernel
theorem dX5_takeFrom_49 : decode cX5_takeFrom 49 = .ok (.aload_n 0, 1) := by decide +kernel
theorem dX5_takeFrom_50 : decode cX5_takeFrom 50 = .ok (.getfield 21, 3) := by decide +kernel
theorem dX5_takeFrom_53 : decode cX5_takeFrom 53 = .ok (.iconst 0, 1) := by decide +kernel
theorem dX5_takeFrom_54 : decode cX5_takeFrom 54 = .ok (.bipush 12, 2) := by decide +kernel
theorem dX5_takeFrom_56 : decode cX5_takeFrom 56 = .ok (.invokestatic 37, 3) := by decide +kernel
theorem dX5_takeFrom_59 : decode cX5_takeFrom 59 = .ok (.aload_n 1, 1) := by decide +kernel
theorem dX5_takeFrom_60 : decode cX5_takeFrom 60 = .ok (.getfield 24, 3) := by decide +kernel
theorem dX5_takeFrom_63 : decode cX5_takeFrom 63 = .ok (.iconst 0, 1) := by decide +kernel
theorem dX5_takeFrom_64 : decode cX5_takeFrom 64 = .ok (.aload_n 0, 1) := by decide +kernel
theorem dX5_takeFrom_65 : decode cX5_takeFrom 65 = .ok (.getfield 24, 3) := by decide +kernel
theorem dX5_takeFrom_68 : decode cX5_takeFrom 68 = .ok (.iconst 0, 1) := by decide +kernel
theorem dX5_takeFrom_69 : decode cX5_takeFrom 69 = .ok (.bipush 12, 2) := by decide +kernel
theorem dX5_takeFrom_71 : decode cX5_takeFrom 71 = .ok (.invokestatic 37, 3) := by decide +kernel
theorem dX5_takeFrom_74 : decode cX5_takeFrom 74 = .ok (.aload_n 1, 1) := by decide +kernel
theorem dX5_takeFrom_75 : decode cX5_takeFrom 75 = .ok (.getfield 27, 3) := by decide +kernel
theorem dX5_takeFrom_78 : decode cX5_takeFrom 78 = .ok (.iconst 0, 1) := by decide +kernel
theorem dX5_takeFrom_79 : decode cX5_takeFrom 79 = .ok (.aload_n 0, 1) := by decide +kernel
theorem dX5_takeFrom_80 : decode cX5_takeFrom 80 = .ok (.getfield 27, 3) := by decide +kernel
theorem dX5_takeFrom_83 : decode cX5_takeFrom 83 = .ok (.iconst 0, 1) := by decide +kernel
theorem dX5_takeFrom_84 : decode cX5_takeFrom 84 = .ok (.bipush 12, 2) := by decide +kernel
theorem dX5_takeFrom_86 : decode cX5_takeFrom 86 = .ok (.invokestatic 37, 3) := by decide +kernel
theorem dX5_takeFrom_89 : decode cX5_takeFrom 89 = .ok (.aload_n 0, 1) := by decide +kernel
theorem dX5_takeFrom_90 : decode cX5_takeFrom 90 = .ok (.aload_n 1, 1) := by decide +kernel
theorem dX5_takeFrom_91 : decode cX5_takeFrom 91 = .ok (.getfield 44, 3) := by decide +kernel
theorem dX5_takeFrom_94 : decode cX5_takeFrom 94 = .ok (.putfield 44, 3) := by decide +kernel
theorem dX5_takeFrom_97 : decode cX5_takeFrom 97 = .ok (.aload_n 0, 1) := by decide +kernel
theorem dX5_takeFrom_98 : decode cX5_takeFrom 98 = .ok (.aload_n 1, 1) := by decide +kernel
theorem dX5_takeFrom_99 : decode cX5_takeFrom 99 = .ok (.getfield 30, 3) := by decide +kernel
theorem dX5_takeFrom_102 : decode cX5_takeFrom 102 = .ok (.putfield 30, 3) := by decide +kernel
theorem dX5_takeFrom_105 : decode cX5_takeFrom 105 = .ok (.return_, 1) := by decide +kernel
theorem dX5_sell_0 : decode cX5_sell 0 = .ok (.aload_n 0, 1) := by decide +kernel
theorem dX5_sell_1 : decode cX5_sell 1 = .ok (.getfield 18, 3) := by decide +kernel
theorem dX5_sell_4 : decode cX5_sell 4 = .ok (.aload_n 0, 1) := by decide +kernel
theorem dX5_sell_5 : decode cX5_sell 5 = .ok (.getfield 44, 3) := by decide +kernel
theorem dX5_sell_8 : decode cX5_sell 8 = .ok (.iload_n 1, 1) := by decide +kernel
theorem dX5_sell_9 : decode cX5_sell 9 = .ok (.iastore, 1) := by decide +kernel
theorem dX5_sell_10 : decode cX5_sell 10 = .ok (.aload_n 0, 1) := by decide +kernel
theorem dX5_sell_11 : decode cX5_sell 11 = .ok (.getfield 21, 3) := by decide +kernel
theorem dX5_sell_14 : decode cX5_sell 14 = .ok (.aload_n 0, 1) := by decide +kernel
theorem dX5_sell_15 : decode cX5_sell 15 = .ok (.getfield 44, 3) := by decide +kernel
theorem dX5_sell_18 : decode cX5_sell 18 = .ok (.iload_n 2, 1) := by decide +kernel
theorem dX5_sell_19 : decode cX5_sell 19 = .ok (.iastore, 1) := by decide +kernel
theorem dX5_sell_20 : decode cX5_sell 20 = .ok (.aload_n 0, 1) := by decide +kernel
theorem dX5_sell_21 : decode cX5_sell 21 = .ok (.getfield 24, 3) := by decide +kernel
theorem dX5_sell_24 : decode cX5_sell 24 = .ok (.aload_n 0, 1) := by decide +kernel
theorem dX5_sell_25 : decode cX5_sell 25 = .ok (.getfield 44, 3) := by decide +kernel
theorem dX5_sell_28 : decode cX5_sell 28 = .ok (.iload_n 3, 1) := by decide +kernel
theorem dX5_sell_29 : decode cX5_sell 29 = .ok (.iastore, 1) := by decide +kernel
theorem dX5_sell_30 : decode cX5_sell 30 = .ok (.aload_n 0, 1) := by decide +kernel
theorem dX5_sell_31 : decode cX5_sell 31 = .ok (.getfield 27, 3) := by decide +kernel
theorem dX5_sell_34 : decode cX5_sell 34 = .ok (.aload_n 0, 1) := by decide +kernel
theorem dX5_sell_35 : decode cX5_sell 35 = .ok (.getfield 44, 3) := by decide +kernel
theorem dX5_sell_38 : decode cX5_sell 38 = .ok (.iload_n 3, 1) := by decide +kernel
theorem dX5_sell_39 : decode cX5_sell 39 = .ok (.aload_n 0, 1) := by decide +kernel
theorem dX5_sell_40 : decode cX5_sell 40 = .ok (.getfield 9, 3) := by decide +kernel
theorem dX5_sell_43 : decode cX5_sell 43 = .ok (.iload_n 1, 1) := by decide +kernel
theorem dX5_sell_44 : decode cX5_sell 44 = .ok (.iaload, 1) := by decide +kernel
theorem dX5_sell_45 : decode cX5_sell 45 = .ok (.imul, 1) := by decide +kernel
theorem dX5_sell_46 : decode cX5_sell 46 = .ok (.iastore, 1) := by decide +kernel
theorem dX5_sell_47 : decode cX5_sell 47 = .ok (.aload_n 0, 1) := by decide +kernel
theorem dX5_sell_48 : decode cX5_sell 48 = .ok (.getfield 15, 3) := by decide +kernel
theorem dX5_sell_51 : decode cX5_sell 51 = .ok (.iload_n 2, 1) := by decide +kernel
theorem dX5_sell_52 : decode cX5_sell 52 = .ok (.dup2, 1) := by decide +kernel
theorem dX5_sell_53 : decode cX5_sell 53 = .ok (.iaload, 1) := by decide +kernel
theorem dX5_sell_54 : decode cX5_sell 54 = .ok (.aload_n 0, 1) := by decide +kernel
theorem dX5_sell_55 : decode cX5_sell 55 = .ok (.getfield 27, 3) := by decide +kernel
theorem dX5_sell_58 : decode cX5_sell 58 = .ok (.aload_n 0, 1) := by decide +kernel
theorem dX5_sell_59 : decode cX5_sell 59 = .ok (.getfield 44, 3) := by decide +kernel
theorem dX5_sell_62 : decode cX5_sell 62 = .ok (.iaload, 1) := by decide +kernel
theorem dX5_sell_63 : decode cX5_sell 63 = .ok (.isub, 1) := by decide +kernel
theorem dX5_sell_64 : decode cX5_sell 64 = .ok (.iastore, 1) := by decide +kernel
theorem dX5_sell_65 : decode cX5_sell 65 = .ok (.aload_n 0, 1) := by decide +kernel
theorem dX5_sell_66 : decode cX5_sell 66 = .ok (.dup, 1) := by decide +kernel
theorem dX5_sell_67 : decode cX5_sell 67 = .ok (.getfield 44, 3) := by decide +kernel
theorem dX5_sell_70 : decode cX5_sell 70 = .ok (.iconst 1, 1) := by decide +kernel
theorem dX5_sell_71 : decode cX5_sell 71 = .ok (.iadd, 1) := by decide +kernel
theorem dX5_sell_72 : decode cX5_sell 72 = .ok (.putfield 44, 3) := by decide +kernel
theorem dX5_sell_75 : decode cX5_sell 75 = .ok (.return_, 1) := by decide +kernel
theorem dX5_takeBack_0 : decode cX5_takeBack 0 = .ok (.aload_n 0, 1) := by decide +kernel
theorem dX5_takeBack_1 : decode cX5_takeBack 1 = .ok (.dup, 1) := by decide +kernel
theorem dX5_takeBack_2 : decode cX5_takeBack 2 = .ok (.getfield 44, 3) := by decide +kernel
theorem dX5_takeBack_5 : decode cX5_takeBack 5 = .ok (.iconst 1, 1) := by decide +kernel
theorem dX5_takeBack_6 : decode cX5_takeBack 6 = .ok (.isub, 1) := by decide +kernel
theorem dX5_takeBack_7 : decode cX5_takeBack 7 = .ok (.putfield 44, 3) := by decide +kernel
theorem dX5_takeBack_10 : decode cX5_takeBack 10 = .ok (.aload_n 0, 1) := by decide +kernel
theorem dX5_takeBack_11 : decode cX5_takeBack 11 = .ok (.getfield 15, 3) := by decide +kernel
theorem dX5_takeBack_14 : decode cX5_takeBack 14 = .ok (.aload_n 0, 1) := by decide +kernel
theorem dX5_takeBack_15 : decode cX5_takeBack 15 = .ok (.getfield 21, 3) := by decide +kernel
theorem dX5_takeBack_18 : decode cX5_takeBack 18 = .ok (.aload_n 0, 1) := by decide +kernel
theorem dX5_takeBack_19 : decode cX5_takeBack 19 = .ok (.getfield 44, 3) := by decide +kernel
theorem dX5_takeBack_22 : decode cX5_takeBack 22 = .ok (.iaload, 1) := by decide +kernel
theorem dX5_takeBack_23 : decode cX5_takeBack 23 = .ok (.dup2, 1) := by decide +kernel
theorem dX5_takeBack_24 : decode cX5_takeBack 24 = .ok (.iaload, 1) := by decide +kernel
theorem dX5_takeBack_25 : decode cX5_takeBack 25 = .ok (.aload_n 0, 1) := by decide +kernel
theorem dX5_takeBack_26 : decode cX5_takeBack 26 = .ok (.getfield 27, 3) := by decide +kernel
theorem dX5_takeBack_29 : decode cX5_takeBack 29 = .ok (.aload_n 0, 1) := by decide +kernel
theorem dX5_takeBack_30 : decode cX5_takeBack 30 = .ok (.getfield 44, 3) := by decide +kernel
theorem dX5_takeBack_33 : decode cX5_takeBack 33 = .ok (.iaload, 1) := by decide +kernel
theorem dX5_takeBack_34 : decode cX5_takeBack 34 = .ok (.iadd, 1) := by decide +kernel
theorem dX5_takeBack_35 : decode cX5_takeBack 35 = .ok (.iastore, 1) := by decide +kernel
theorem dX5_takeBack_36 : decode cX5_takeBack 36 = .ok (.return_, 1) := by decide +kernel
theorem dX5_ellsSoldAt_0 : decode cX5_ellsSoldAt 0 = .ok (.iconst 0, 1) := by decide +kernel
theorem dX5_ellsSoldAt_1 : decode cX5_ellsSoldAt 1 = .ok (.istore_n 2, 1) := by decide +kernel
theorem dX5_ellsSoldAt_2 : decode cX5_ellsSoldAt 2 = .ok (.iconst 0, 1) := by decide +kernel
theorem dX5_ellsSoldAt_3 : decode cX5_ellsSoldAt 3 = .ok (.istore_n 3, 1) := by decide +kernel
theorem dX5_ellsSoldAt_4 : decode cX5_ellsSoldAt 4 = .ok (.iload_n 3, 1) := by decide +kernel
theorem dX5_ellsSoldAt_5 : decode cX5_ellsSoldAt 5 = .ok (.aload_n 0, 1) := by decide +kernel
theorem dX5_ellsSoldAt_6 : decode cX5_ellsSoldAt 6 = .ok (.getfield 44, 3) := by decide +kernel
theorem dX5_ellsSoldAt_9 : decode cX5_ellsSoldAt 9 = .ok (.if_icmp .ge 28, 3) := by decide +kernel
theorem dX5_ellsSoldAt_12 : decode cX5_ellsSoldAt 12 = .ok (.aload_n 0, 1) := by decide +kernel
theorem dX5_ellsSoldAt_13 : decode cX5_ellsSoldAt 13 = .ok (.getfield 21, 3) := by decide +kernel
theorem dX5_ellsSoldAt_16 : decode cX5_ellsSoldAt 16 = .ok (.iload_n 3, 1) := by decide +kernel
theorem dX5_ellsSoldAt_17 : decode cX5_ellsSoldAt 17 = .ok (.iaload, 1) := by decide +kernel
theorem dX5_ellsSoldAt_18 : decode cX5_ellsSoldAt 18 = .ok (.iload_n 1, 1) := by decide +kernel
theorem dX5_ellsSoldAt_19 : decode cX5_ellsSoldAt 19 = .ok (.if_icmp .ne 12, 3) := by decide +kernel
theorem dX5_ellsSoldAt_22 : decode cX5_ellsSoldAt 22 = .ok (.iload_n 2, 1) := by decide +kernel
theorem dX5_ellsSoldAt_23 : decode cX5_ellsSoldAt 23 = .ok (.aload_n 0, 1) := by decide +kernel
theorem dX5_ellsSoldAt_24 : decode cX5_ellsSoldAt 24 = .ok (.getfield 24, 3) := by decide +kernel
theorem dX5_ellsSoldAt_27 : decode cX5_ellsSoldAt 27 = .ok (.iload_n 3, 1) := by decide +kernel
theorem dX5_ellsSoldAt_28 : decode cX5_ellsSoldAt 28 = .ok (.iaload, 1) := by decide +kernel
theorem dX5_ellsSoldAt_29 : decode cX5_ellsSoldAt 29 = .ok (.iadd, 1) := by decide +kernel
theorem dX5_ellsSoldAt_30 : decode cX5_ellsSoldAt 30 = .ok (.istore_n 2, 1) := by decide +kernel
theorem dX5_ellsSoldAt_31 : decode cX5_ellsSoldAt 31 = .ok (.iinc 3 1, 3) := by decide +kernel
theorem dX5_ellsSoldAt_34 : decode cX5_ellsSoldAt 34 = .ok (.goto (-30), 3) := by decide +kernel
theorem dX5_ellsSoldAt_37 : decode cX5_ellsSoldAt 37 = .ok (.iload_n 2, 1) := by decide +kernel
theorem dX5_ellsSoldAt_38 : decode cX5_ellsSoldAt 38 = .ok (.ireturn, 1) := by decide +kernel
theorem dX5_lostAt_0 : decode cX5_lostAt 0 = .ok (.iconst 0, 1) := by decide +kernel
theorem dX5_lostAt_1 : decode cX5_lostAt 1 = .ok (.istore_n 2, 1) := by decide +kernel
theorem dX5_lostAt_2 : decode cX5_lostAt 2 = .ok (.iconst 0, 1) := by decide +kernel
theorem dX5_lostAt_3 : decode cX5_lostAt 3 = .ok (.istore_n 3, 1) := by decide +kernel
theorem dX5_lostAt_4 : decode cX5_lostAt 4 = .ok (.iload_n 3, 1) := by decide +kernel
theorem dX5_lostAt_5 : decode cX5_lostAt 5 = .ok (.aload_n 0, 1) := by decide +kernel
theorem dX5_lostAt_6 : decode cX5_lostAt 6 = .ok (.getfield 44, 3) := by decide +kernel
theorem dX5_lostAt_9 : decode cX5_lostAt 9 = .ok (.if_icmp .ge 40, 3) := by decide +kernel
theorem dX5_lostAt_12 : decode cX5_lostAt 12 = .ok (.aload_n 0, 1) := by decide +kernel
theorem dX5_lostAt_13 : decode cX5_lostAt 13 = .ok (.getfield 21, 3) := by decide +kernel
theorem dX5_lostAt_16 : decode cX5_lostAt 16 = .ok (.iload_n 3, 1) := by decide +kernel
theorem dX5_lostAt_17 : decode cX5_lostAt 17 = .ok (.iaload, 1) := by decide +kernel
theorem dX5_lostAt_18 : decode cX5_lostAt 18 = .ok (.iload_n 1, 1) := by decide +kernel
theorem dX5_lostAt_19 : decode cX5_lostAt 19 = .ok (.if_icmp .ne 24, 3) := by decide +kernel
theorem dX5_lostAt_22 : decode cX5_lostAt 22 = .ok (.iload_n 2, 1) := by decide +kernel
theorem dX5_lostAt_23 : decode cX5_lostAt 23 = .ok (.aload_n 0, 1) := by decide +kernel
theorem dX5_lostAt_24 : decode cX5_lostAt 24 = .ok (.getfield 27, 3) := by decide +kernel
theorem dX5_lostAt_27 : decode cX5_lostAt 27 = .ok (.iload_n 3, 1) := by decide +kernel
theorem dX5_lostAt_28 : decode cX5_lostAt 28 = .ok (.iaload, 1) := by decide +kernel
theorem dX5_lostAt_29 : decode cX5_lostAt 29 = .ok (.aload_n 0, 1) := by decide +kernel
theorem dX5_lostAt_30 : decode cX5_lostAt 30 = .ok (.getfield 24, 3) := by decide +kernel
theorem dX5_lostAt_33 : decode cX5_lostAt 33 = .ok (.iload_n 3, 1) := by decide +kernel
theorem dX5_lostAt_34 : decode cX5_lostAt 34 = .ok (.iaload, 1) := by decide +kernel
theorem dX5_lostAt_35 : decode cX5_lostAt 35 = .ok (.aload_n 0, 1) := by decide +kernel
theorem dX5_lostAt_36 : decode cX5_lostAt 36 = .ok (.getfield 30, 3) := by decide +kernel
theorem dX5_lostAt_39 : decode cX5_lostAt 39 = .ok (.imul, 1) := by decide +kernel
theorem dX5_lostAt_40 : decode cX5_lostAt 40 = .ok (.isub, 1) := by decide +kernel
theorem dX5_lostAt_41 : decode cX5_lostAt 41 = .ok (.iadd, 1) := by decide +kernel
theorem dX5_lostAt_42 : decode cX5_lostAt 42 = .ok (.istore_n 2, 1) := by decide +kernel
theorem dX5_lostAt_43 : decode cX5_lostAt 43 = .ok (.iinc 3 1, 3) := by decide +kernel
theorem dX5_lostAt_46 : decode cX5_lostAt 46 = .ok (.goto (-42), 3) := by decide +kernel
theorem dX5_lostAt_49 : decode cX5_lostAt 49 = .ok (.iload_n 2, 1) := by decide +kernel
theorem dX5_lostAt_50 : decode cX5_lostAt 50 = .ok (.ireturn, 1) := by decide +kernel
theorem dX6_init_0 : decode cX6_init 0 = .ok (.aload_n 0, 1) := by decide +kernel
theorem dX6_init_1 : decode cX6_init 1 = .ok (.invokespecial 3, 3) := by decide +kernel
theorem dX6_init_4 : decode cX6_init 4 = .ok (.aload_n 0, 1) := by decide +kernel
theorem dX6_init_5 : decode cX6_init 5 = .ok (.bipush 6, 2) := by decide +kernel
theorem dX6_init_7 : decode cX6_init 7 = .ok (.newarray .int, 2) := by decide +kernel
theorem dX6_init_9 : decode cX6_init 9 = .ok (.putfield 9, 3) := by decide +kernel
theorem dX6_init_12 : decode cX6_init 12 = .ok (.aload_n 0, 1) := by decide +kernel
theorem dX6_init_13 : decode cX6_init 13 = .ok (.bipush 6, 2) := by decide +kernel
theorem dX6_init_15 : decode cX6_init 15 = .ok (.newarray .int, 2) := by decide +kernel
theorem dX6_init_17 : decode cX6_init 17 = .ok (.putfield 15, 3) := by decide +kernel
theorem dX6_init_20 : decode cX6_init 20 = .ok (.aload_n 0, 1) := by decide +kernel
theorem dX6_init_21 : decode cX6_init 21 = .ok (.bipush 6, 2) := by decide +kernel
theorem dX6_init_23 : decode cX6_init 23 = .ok (.newarray .int, 2) := by decide +kernel
theorem dX6_init_25 : decode cX6_init 25 = .ok (.putfield 18, 3) := by decide +kernel
theorem dX6_init_28 : decode cX6_init 28 = .ok (.aload_n 0, 1) := by decide +kernel
theorem dX6_init_29 : decode cX6_init 29 = .ok (.bipush 6, 2) := by decide +kernel
theorem dX6_init_31 : decode cX6_init 31 = .ok (.newarray .int, 2) := by decide +kernel
theorem dX6_init_33 : decode cX6_init 33 = .ok (.putfield 21, 3) := by decide +kernel
theorem dX6_init_36 : decode cX6_init 36 = .ok (.aload_n 0, 1) := by decide +kernel
theorem dX6_init_37 : decode cX6_init 37 = .ok (.iconst 4, 1) := by decide +kernel
theorem dX6_init_38 : decode cX6_init 38 = .ok (.newarray .int, 2) := by decide +kernel
theorem dX6_init_40 : decode cX6_init 40 = .ok (.putfield 24, 3) := by decide +kernel
theorem dX6_init_43 : decode cX6_init 43 = .ok (.aload_n 0, 1) := by decide +kernel
theorem dX6_init_44 : decode cX6_init 44 = .ok (.iconst 4, 1) := by decide +kernel
theorem dX6_init_45 : decode cX6_init 45 = .ok (.newarray .int, 2) := by decide +kernel
theorem dX6_init_47 : decode cX6_init 47 = .ok (.putfield 27, 3) := by decide +kernel
theorem dX6_init_50 : decode cX6_init 50 = .ok (.return_, 1) := by decide +kernel
theorem dX6_clear_0 : decode cX6_clear 0 = .ok (.aload_n 0, 1) := by decide +kernel
theorem dX6_clear_1 : decode cX6_clear 1 = .ok (.iconst 0, 1) := by decide +kernel
theorem dX6_clear_2 : decode cX6_clear 2 = .ok (.putfield 30, 3) := by decide +kernel
theorem dX6_clear_5 : decode cX6_clear 5 = .ok (.aload_n 0, 1) := by decide +kernel
theorem dX6_clear_6 : decode cX6_clear 6 = .ok (.iconst 0, 1) := by decide +kernel
theorem dX6_clear_7 : decode cX6_clear 7 = .ok (.putfield 34, 3) := by decide +kernel
theorem dX6_clear_10 : decode cX6_clear 10 = .ok (.aload_n 0, 1) := by decide +kernel
theorem dX6_clear_11 : decode cX6_clear 11 = .ok (.iconst 0, 1) := by decide +kernel
theorem dX6_clear_12 : decode cX6_clear 12 = .ok (.putfield 37, 3) := by decide +kernel
theorem dX6_clear_15 : decode cX6_clear 15 = .ok (.aload_n 0, 1) := by decide +kernel
theorem dX6_clear_16 : decode cX6_clear 16 = .ok (.iconst 0, 1) := by decide +kernel
theorem dX6_clear_17 : decode cX6_clear 17 = .ok (.putfield 40, 3) := by decide +kernel
theorem dX6_clear_20 : decode cX6_clear 20 = .ok (.aload_n 0, 1) := by decide +kernel
theorem dX6_clear_21 : decode cX6_clear 21 = .ok (.getfield 18, 3) := by decide +kernel
theorem dX6_clear_24 : decode cX6_clear 24 = .ok (.iconst 0, 1) := by decide +kernel
theorem dX6_clear_25 : decode cX6_clear 25 = .ok (.invokestatic 43, 3) := by decide +kernel
theorem dX6_clear_28 : decode cX6_clear 28 = .ok (.aload_n 0, 1) := by decide +kernel
theorem dX6_clear_29 : decode cX6_clear 29 = .ok (.getfield 21, 3) := by decide +kernel
theorem dX6_clear_32 : decode cX6_clear 32 = .ok (.iconst 0, 1) := by decide +kernel
theorem dX6_clear_33 : decode cX6_clear 33 = .ok (.invokestatic 43, 3) := by decide +kernel
theorem dX6_clear_36 : decode cX6_clear 36 = .ok (.return_, 1) := by decide +kernel
theorem dX6_hasPerson_0 : decode cX6_hasPerson 0 = .ok (.iload_n 1, 1) := by decide +kernel
theorem dX6_hasPerson_1 : decode cX6_hasPerson 1 = .ok (.ifCond .lt 15, 3) := by decide +kernel
theorem dX6_hasPerson_4 : decode cX6_hasPerson 4 = .ok (.iload_n 1, 1) := by decide +kernel
theorem dX6_hasPerson_5 : decode cX6_hasPerson 5 = .ok (.aload_n 0, 1) := by decide +kernel
theorem dX6_hasPerson_6 : decode cX6_hasPerson 6 = .ok (.getfield 30, 3) := by decide +kernel
theorem dX6_hasPerson_9 : decode cX6_hasPerson 9 = .ok (.if_icmp .ge 7, 3) := by decide +kernel
theorem dX6_hasPerson_12 : decode cX6_hasPerson 12 = .ok (.iconst 1, 1) := by decide +kernel
theorem dX6_hasPerson_13 : decode cX6_hasPerson 13 = .ok (.goto 4, 3) := by decide +kernel
theorem dX6_hasPerson_16 : decode cX6_hasPerson 16 = .ok (.iconst 0, 1) := by decide +kernel
theorem dX6_hasPerson_17 : decode cX6_hasPerson 17 = .ok (.ireturn, 1) := by decide +kernel
theorem dX6_hasCounter_0 : decode cX6_hasCounter 0 = .ok (.iload_n 1, 1) := by decide +kernel
theorem dX6_hasCounter_1 : decode cX6_hasCounter 1 = .ok (.ifCond .lt 15, 3) := by decide +kernel
theorem dX6_hasCounter_4 : decode cX6_hasCounter 4 = .ok (.iload_n 1, 1) := by decide +kernel
theorem dX6_hasCounter_5 : decode cX6_hasCounter 5 = .ok (.aload_n 0, 1) := by decide +kernel
theorem dX6_hasCounter_6 : decode cX6_hasCounter 6 = .ok (.getfield 34, 3) := by decide +kernel
theorem dX6_hasCounter_9 : decode cX6_hasCounter 9 = .ok (.if_icmp .ge 7, 3) := by decide +kernel
theorem dX6_hasCounter_12 : decode cX6_hasCounter 12 = .ok (.iconst 1, 1) := by decide +kernel
theorem dX6_hasCounter_13 : decode cX6_hasCounter 13 = .ok (.goto 4, 3) := by decide +kernel
theorem dX6_hasCounter_16 : decode cX6_hasCounter 16 = .ok (.iconst 0, 1) := by decide +kernel
theorem dX6_hasCounter_17 : decode cX6_hasCounter 17 = .ok (.ireturn, 1) := by decide +kernel
theorem dX6_bars_0 : decode cX6_bars 0 = .ok (.aload_n 0, 1) := by decide +kernel
theorem dX6_bars_1 : decode cX6_bars 1 = .ok (.getfield 21, 3) := by decide +kernel
theorem dX6_bars_4 : decode cX6_bars 4 = .ok (.iload_n 1, 1) := by decide +kernel
theorem dX6_bars_5 : decode cX6_bars 5 = .ok (.iaload, 1) := by decide +kernel
theorem dX6_bars_6 : decode cX6_bars 6 = .ok (.iload_n 2, 1) := by decide +kernel
theorem dX6_bars_7 : decode cX6_bars 7 = .ok (.ishr, 1) := by decide +kernel
theorem dX6_bars_8 : decode cX6_bars 8 = .ok (.iconst 1, 1) := by decide +kernel
theorem dX6_bars_9 : decode cX6_bars 9 = .ok (.iand, 1) := by decide +kernel
theorem dX6_bars_10 : decode cX6_bars 10 = .ok (.iconst 1, 1) := by decide +kernel
theorem dX6_bars_11 : decode cX6_bars 11 = .ok (.if_icmp .ne 7, 3) := by decide +kernel
theorem dX6_bars_14 : decode cX6_bars 14 = .ok (.iconst 1, 1) := by decide +kernel
theorem dX6_bars_15 : decode cX6_bars 15 = .ok (.goto 4, 3) := by decide +kernel
theorem dX6_bars_18 : decode cX6_bars 18 = .ok (.iconst 0, 1) := by decide +kernel
theorem dX6_bars_19 : decode cX6_bars 19 = .ok (.ireturn, 1) := by decide +kernel
theorem dX6_isKeeper_0 : decode cX6_isKeeper 0 = .ok (.aload_n 0, 1) := by decide +kernel
theorem dX6_isKeeper_1 : decode cX6_isKeeper 1 = .ok (.getfield 40, 3) := by decide +kernel
theorem dX6_isKeeper_4 : decode cX6_isKeeper 4 = .ok (.iload_n 1, 1) := by decide +kernel
theorem dX6_isKeeper_5 : decode cX6_isKeeper 5 = .ok (.ishr, 1) := by decide +kernel
theorem dX6_isKeeper_6 : decode cX6_isKeeper 6 = .ok (.iconst 1, 1) := by decide +kernel
theorem dX6_isKeeper_7 : decode cX6_isKeeper 7 = .ok (.iand, 1) := by decide +kernel
theorem dX6_isKeeper_8 : decode cX6_isKeeper 8 = .ok (.iconst 1, 1) := by decide +kernel
theorem dX6_isKeeper_9 : decode cX6_isKeeper 9 = .ok (.if_icmp .ne 7, 3) := by decide +kernel
theorem dX6_isKeeper_12 : decode cX6_isKeeper 12 = .ok (.iconst 1, 1) := by decide +kernel
theorem dX6_isKeeper_13 : decode cX6_isKeeper 13 = .ok (.goto 4, 3) := by decide +kernel
theorem dX6_isKeeper_16 : decode cX6_isKeeper 16 = .ok (.iconst 0, 1) := by decide +kernel
theorem dX6_isKeeper_17 : decode cX6_isKeeper 17 = .ok (.ireturn, 1) := by decide +kernel
end
section
theorem dX7_init_0 : decode cX7_init 0 = .ok (.aload_n 0, 1) := by decide +kernel
theorem dX7_init_1 : decode cX7_init 1 = .ok (.invokespecial 3, 3) := by decide +kernel
theorem dX7_init_4 : decode cX7_init 4 = .ok (.aload_n 0, 1) := by decide +kernel
theorem dX7_init_5 : decode cX7_init 5 = .ok (.bipush 7, 2) := by decide +kernel
theorem dX7_init_7 : decode cX7_init 7 = .ok (.sipush 1098, 3) := by decide +kernel
theorem dX7_init_10 : decode cX7_init 10 = .ok (.multianewarray 11 2, 4) := by decide +kernel
theorem dX7_init_14 : decode cX7_init 14 = .ok (.putfield 13, 3) := by decide +kernel
theorem dX7_init_17 : decode cX7_init 17 = .ok (.aload_n 0, 1) := by decide +kernel
theorem dX7_init_18 : decode cX7_init 18 = .ok (.sipush 1098, 3) := by decide +kernel
theorem dX7_init_21 : decode cX7_init 21 = .ok (.newarray .int, 2) := by decide +kernel
theorem dX7_init_23 : decode cX7_init 23 = .ok (.putfield 16, 3) := by decide +kernel
theorem dX7_init_26 : decode cX7_init 26 = .ok (.aload_n 0, 1) := by decide +kernel
theorem dX7_init_27 : decode cX7_init 27 = .ok (.bipush 6, 2) := by decide +kernel
theorem dX7_init_29 : decode cX7_init 29 = .ok (.newarray .int, 2) := by decide +kernel
theorem dX7_init_31 : decode cX7_init 31 = .ok (.putfield 20, 3) := by decide +kernel
theorem dX7_init_34 : decode cX7_init 34 = .ok (.return_, 1) := by decide +kernel
theorem dX7_reckon_0 : decode cX7_reckon 0 = .ok (.aload_n 0, 1) := by decide +kernel
theorem dX7_reckon_1 : decode cX7_reckon 1 = .ok (.aload_n 2, 1) := by decide +kernel
theorem dX7_reckon_2 : decode cX7_reckon 2 = .ok (.getfield 23, 3) := by decide +kernel
theorem dX7_reckon_5 : decode cX7_reckon 5 = .ok (.iload_n 3, 1) := by decide +kernel
theorem dX7_reckon_6 : decode cX7_reckon 6 = .ok (.iaload, 1) := by decide +kernel
theorem dX7_reckon_7 : decode cX7_reckon 7 = .ok (.iload 4, 2) := by decide +kernel
theorem dX7_reckon_9 : decode cX7_reckon 9 = .ok (.bipush 99, 2) := by decide +kernel
theorem dX7_reckon_11 : decode cX7_reckon 11 = .ok (.iadd, 1) := by decide +kernel
theorem dX7_reckon_12 : decode cX7_reckon 12 = .ok (.iconst 1, 1) := by decide +kernel
theorem dX7_reckon_13 : decode cX7_reckon 13 = .ok (.isub, 1) := by decide +kernel
theorem dX7_reckon_14 : decode cX7_reckon 14 = .ok (.invokestatic 28, 3) := by decide +kernel
theorem dX7_reckon_17 : decode cX7_reckon 17 = .ok (.putfield 34, 3) := by decide +kernel
theorem dX7_reckon_20 : decode cX7_reckon 20 = .ok (.aload_n 0, 1) := by decide +kernel
theorem dX7_reckon_21 : decode cX7_reckon 21 = .ok (.getfield 13, 3) := by decide +kernel
theorem dX7_reckon_24 : decode cX7_reckon 24 = .ok (.aload_n 1, 1) := by decide +kernel
theorem dX7_reckon_25 : decode cX7_reckon 25 = .ok (.getfield 38, 3) := by decide +kernel
theorem dX7_reckon_28 : decode cX7_reckon 28 = .ok (.aaload, 1) := by decide +kernel
theorem dX7_reckon_29 : decode cX7_reckon 29 = .ok (.ldc 43, 2) := by decide +kernel
theorem dX7_reckon_31 : decode cX7_reckon 31 = .ok (.invokestatic 44, 3) := by decide +kernel
theorem dX7_reckon_34 : decode cX7_reckon 34 = .ok (.aload_n 0, 1) := by decide +kernel
theorem dX7_reckon_35 : decode cX7_reckon 35 = .ok (.getfield 13, 3) := by decide +kernel
theorem dX7_reckon_38 : decode cX7_reckon 38 = .ok (.aload_n 1, 1) := by decide +kernel
theorem dX7_reckon_39 : decode cX7_reckon 39 = .ok (.getfield 38, 3) := by decide +kernel
theorem dX7_reckon_42 : decode cX7_reckon 42 = .ok (.aaload, 1) := by decide +kernel
theorem dX7_reckon_43 : decode cX7_reckon 43 = .ok (.iconst 0, 1) := by decide +kernel
theorem dX7_reckon_44 : decode cX7_reckon 44 = .ok (.iconst 0, 1) := by decide +kernel
theorem dX7_reckon_45 : decode cX7_reckon 45 = .ok (.iastore, 1) := by decide +kernel
theorem dX7_reckon_46 : decode cX7_reckon 46 = .ok (.aload_n 1, 1) := by decide +kernel
theorem dX7_reckon_47 : decode cX7_reckon 47 = .ok (.getfield 38, 3) := by decide +kernel
theorem dX7_reckon_50 : decode cX7_reckon 50 = .ok (.iconst 1, 1) := by decide +kernel
theorem dX7_reckon_51 : decode cX7_reckon 51 = .ok (.isub, 1) := by decide +kernel
theorem dX7_reckon_52 : decode cX7_reckon 52 = .ok (.istore 5, 2) := by decide +kernel
theorem dX7_reckon_54 : decode cX7_reckon 54 = .ok (.iload 5, 2) := by decide +kernel
theorem dX7_reckon_56 : decode cX7_reckon 56 = .ok (.ifCond .lt 74, 3) := by decide +kernel
theorem dX7_reckon_59 : decode cX7_reckon 59 = .ok (.aload_n 1, 1) := by decide +kernel
theorem dX7_reckon_60 : decode cX7_reckon 60 = .ok (.iload 5, 2) := by decide +kernel
theorem dX7_reckon_62 : decode cX7_reckon 62 = .ok (.iload_n 3, 1) := by decide +kernel
theorem dX7_reckon_63 : decode cX7_reckon 63 = .ok (.invokevirtual 50, 3) := by decide +kernel
theorem dX7_reckon_66 : decode cX7_reckon 66 = .ok (.ifCond .eq 30, 3) := by decide +kernel
theorem dX7_reckon_69 : decode cX7_reckon 69 = .ok (.aload_n 0, 1) := by decide +kernel
theorem dX7_reckon_70 : decode cX7_reckon 70 = .ok (.getfield 13, 3) := by decide +kernel
theorem dX7_reckon_73 : decode cX7_reckon 73 = .ok (.iload 5, 2) := by decide +kernel
theorem dX7_reckon_75 : decode cX7_reckon 75 = .ok (.iconst 1, 1) := by decide +kernel
theorem dX7_reckon_76 : decode cX7_reckon 76 = .ok (.iadd, 1) := by decide +kernel
theorem dX7_reckon_77 : decode cX7_reckon 77 = .ok (.aaload, 1) := by decide +kernel
theorem dX7_reckon_78 : decode cX7_reckon 78 = .ok (.iconst 0, 1) := by decide +kernel
theorem dX7_reckon_79 : decode cX7_reckon 79 = .ok (.aload_n 0, 1) := by decide +kernel
theorem dX7_reckon_80 : decode cX7_reckon 80 = .ok (.getfield 13, 3) := by decide +kernel
theorem dX7_reckon_83 : decode cX7_reckon 83 = .ok (.iload 5, 2) := by decide +kernel
theorem dX7_reckon_85 : decode cX7_reckon 85 = .ok (.aaload, 1) := by decide +kernel
theorem dX7_reckon_86 : decode cX7_reckon 86 = .ok (.iconst 0, 1) := by decide +kernel
theorem dX7_reckon_87 : decode cX7_reckon 87 = .ok (.sipush 1098, 3) := by decide +kernel
theorem dX7_reckon_90 : decode cX7_reckon 90 = .ok (.invokestatic 54, 3) := by decide +kernel
theorem dX7_reckon_93 : decode cX7_reckon 93 = .ok (.goto 31, 3) := by decide +kernel
theorem dX7_reckon_96 : decode cX7_reckon 96 = .ok (.aload_n 0, 1) := by decide +kernel
theorem dX7_reckon_97 : decode cX7_reckon 97 = .ok (.iload 5, 2) := by decide +kernel
theorem dX7_reckon_99 : decode cX7_reckon 99 = .ok (.aload_n 2, 1) := by decide +kernel
theorem dX7_reckon_100 : decode cX7_reckon 100 = .ok (.getfield 60, 3) := by decide +kernel
theorem dX7_reckon_103 : decode cX7_reckon 103 = .ok (.iload 5, 2) := by decide +kernel
theorem dX7_reckon_105 : decode cX7_reckon 105 = .ok (.iaload, 1) := by decide +kernel
theorem dX7_reckon_106 : decode cX7_reckon 106 = .ok (.aload_n 1, 1) := by decide +kernel
theorem dX7_reckon_107 : decode cX7_reckon 107 = .ok (.iload 5, 2) := by decide +kernel
theorem dX7_reckon_109 : decode cX7_reckon 109 = .ok (.invokestatic 63, 3) := by decide +kernel
theorem dX7_reckon_112 : decode cX7_reckon 112 = .ok (.aload_n 1, 1) := by decide +kernel
theorem dX7_reckon_113 : decode cX7_reckon 113 = .ok (.getfield 67, 3) := by decide +kernel
theorem dX7_reckon_116 : decode cX7_reckon 116 = .ok (.iload_n 3, 1) := by decide +kernel
theorem dX7_reckon_117 : decode cX7_reckon 117 = .ok (.iaload, 1) := by decide +kernel
theorem dX7_reckon_118 : decode cX7_reckon 118 = .ok (.bipush 64, 2) := by decide +kernel
theorem dX7_reckon_120 : decode cX7_reckon 120 = .ok (.imul, 1) := by decide +kernel
theorem dX7_reckon_121 : decode cX7_reckon 121 = .ok (.invokevirtual 70, 3) := by decide +kernel
theorem dX7_reckon_124 : decode cX7_reckon 124 = .ok (.iinc 5 (-1), 3) := by decide +kernel
theorem dX7_reckon_127 : decode cX7_reckon 127 = .ok (.goto (-73), 3) := by decide +kernel
theorem dX7_reckon_130 : decode cX7_reckon 130 = .ok (.aload_n 0, 1) := by decide +kernel
theorem dX7_reckon_131 : decode cX7_reckon 131 = .ok (.ldc 43, 2) := by decide +kernel
theorem dX7_reckon_133 : decode cX7_reckon 133 = .ok (.putfield 73, 3) := by decide +kernel
theorem dX7_reckon_136 : decode cX7_reckon 136 = .ok (.iload 4, 2) := by decide +kernel
theorem dX7_reckon_138 : decode cX7_reckon 138 = .ok (.istore 5, 2) := by decide +kernel
theorem dX7_reckon_140 : decode cX7_reckon 140 = .ok (.iload 5, 2) := by decide +kernel
theorem dX7_reckon_142 : decode cX7_reckon 142 = .ok (.aload_n 0, 1) := by decide +kernel
theorem dX7_reckon_143 : decode cX7_reckon 143 = .ok (.getfield 34, 3) := by decide +kernel
theorem dX7_reckon_146 : decode cX7_reckon 146 = .ok (.if_icmp .gt 29, 3) := by decide +kernel
theorem dX7_reckon_149 : decode cX7_reckon 149 = .ok (.aload_n 0, 1) := by decide +kernel
theorem dX7_reckon_150 : decode cX7_reckon 150 = .ok (.aload_n 0, 1) := by decide +kernel
theorem dX7_reckon_151 : decode cX7_reckon 151 = .ok (.getfield 73, 3) := by decide +kernel
theorem dX7_reckon_154 : decode cX7_reckon 154 = .ok (.aload_n 0, 1) := by decide +kernel
theorem dX7_reckon_155 : decode cX7_reckon 155 = .ok (.getfield 13, 3) := by decide +kernel
theorem dX7_reckon_158 : decode cX7_reckon 158 = .ok (.iconst 0, 1) := by decide +kernel
theorem dX7_reckon_159 : decode cX7_reckon 159 = .ok (.aaload, 1) := by decide +kernel
theorem dX7_reckon_160 : decode cX7_reckon 160 = .ok (.iload 5, 2) := by decide +kernel
theorem dX7_reckon_162 : decode cX7_reckon 162 = .ok (.iaload, 1) := by decide +kernel
theorem dX7_reckon_163 : decode cX7_reckon 163 = .ok (.invokestatic 28, 3) := by decide +kernel
theorem dX7_reckon_166 : decode cX7_reckon 166 = .ok (.putfield 73, 3) := by decide +kernel
theorem dX7_reckon_169 : decode cX7_reckon 169 = .ok (.iinc 5 1, 3) := by decide +kernel
theorem dX7_reckon_172 : decode cX7_reckon 172 = .ok (.goto (-32), 3) := by decide +kernel
theorem dX7_reckon_175 : decode cX7_reckon 175 = .ok (.aload_n 0, 1) := by decide +kernel
theorem dX7_reckon_176 : decode cX7_reckon 176 = .ok (.getfield 73, 3) := by decide +kernel
theorem dX7_reckon_179 : decode cX7_reckon 179 = .ok (.ldc 43, 2) := by decide +kernel
theorem dX7_reckon_181 : decode cX7_reckon 181 = .ok (.if_icmp .ge 7, 3) := by decide +kernel
theorem dX7_reckon_184 : decode cX7_reckon 184 = .ok (.iconst 1, 1) := by decide +kernel
theorem dX7_reckon_185 : decode cX7_reckon 185 = .ok (.goto 4, 3) := by decide +kernel
theorem dX7_reckon_188 : decode cX7_reckon 188 = .ok (.iconst 0, 1) := by decide +kernel
theorem dX7_reckon_189 : decode cX7_reckon 189 = .ok (.ireturn, 1) := by decide +kernel
theorem dX7_coins_0 : decode cX7_coins 0 = .ok (.aload_n 0, 1) := by decide +kernel
theorem dX7_coins_1 : decode cX7_coins 1 = .ok (.getfield 73, 3) := by decide +kernel
theorem dX7_coins_4 : decode cX7_coins 4 = .ok (.bipush 64, 2) := by decide +kernel
theorem dX7_coins_6 : decode cX7_coins 6 = .ok (.idiv, 1) := by decide +kernel
theorem dX7_coins_7 : decode cX7_coins 7 = .ok (.ireturn, 1) := by decide +kernel
theorem dX7_shareOut_0 : decode cX7_shareOut 0 = .ok (.aload_n 0, 1) := by decide +kernel
theorem dX7_shareOut_1 : decode cX7_shareOut 1 = .ok (.getfield 73, 3) := by decide +kernel
theorem dX7_shareOut_4 : decode cX7_shareOut 4 = .ok (.istore 5, 2) := by decide +kernel
theorem dX7_shareOut_6 : decode cX7_shareOut 6 = .ok (.iload 4, 2) := by decide +kernel
theorem dX7_shareOut_8 : decode cX7_shareOut 8 = .ok (.istore 6, 2) := by decide +kernel
theorem dX7_shareOut_10 : decode cX7_shareOut 10 = .ok (.aload_n 0, 1) := by decide +kernel
theorem dX7_shareOut_11 : decode cX7_shareOut 11 = .ok (.getfield 34, 3) := by decide +kernel
theorem dX7_shareOut_14 : decode cX7_shareOut 14 = .ok (.istore 7, 2) := by decide +kernel
theorem dX7_shareOut_16 : decode cX7_shareOut 16 = .ok (.aload_n 1, 1) := by decide +kernel
theorem dX7_shareOut_17 : decode cX7_shareOut 17 = .ok (.getfield 67, 3) := by decide +kernel
theorem dX7_shareOut_20 : decode cX7_shareOut 20 = .ok (.iload_n 3, 1) := by decide +kernel
theorem dX7_shareOut_21 : decode cX7_shareOut 21 = .ok (.iaload, 1) := by decide +kernel
theorem dX7_shareOut_22 : decode cX7_shareOut 22 = .ok (.bipush 64, 2) := by decide +kernel
theorem dX7_shareOut_24 : decode cX7_shareOut 24 = .ok (.imul, 1) := by decide +kernel
theorem dX7_shareOut_25 : decode cX7_shareOut 25 = .ok (.istore 8, 2) := by decide +kernel
theorem dX7_shareOut_27 : decode cX7_shareOut 27 = .ok (.iconst 0, 1) := by decide +kernel
theorem dX7_shareOut_28 : decode cX7_shareOut 28 = .ok (.istore 9, 2) := by decide +kernel
theorem dX7_shareOut_30 : decode cX7_shareOut 30 = .ok (.iload 9, 2) := by decide +kernel
theorem dX7_shareOut_32 : decode cX7_shareOut 32 = .ok (.aload_n 1, 1) := by decide +kernel
theorem dX7_shareOut_33 : decode cX7_shareOut 33 = .ok (.getfield 38, 3) := by decide +kernel
theorem dX7_shareOut_36 : decode cX7_shareOut 36 = .ok (.if_icmp .ge 128, 3) := by decide +kernel
theorem dX7_shareOut_39 : decode cX7_shareOut 39 = .ok (.aload_n 0, 1) := by decide +kernel
theorem dX7_shareOut_40 : decode cX7_shareOut 40 = .ok (.getfield 20, 3) := by decide +kernel
theorem dX7_shareOut_43 : decode cX7_shareOut 43 = .ok (.iload 9, 2) := by decide +kernel
theorem dX7_shareOut_45 : decode cX7_shareOut 45 = .ok (.iconst 0, 1) := by decide +kernel
theorem dX7_shareOut_46 : decode cX7_shareOut 46 = .ok (.iastore, 1) := by decide +kernel
theorem dX7_shareOut_47 : decode cX7_shareOut 47 = .ok (.iload 5, 2) := by decide +kernel
theorem dX7_shareOut_49 : decode cX7_shareOut 49 = .ok (.iload 9, 2) := by decide +kernel
theorem dX7_shareOut_51 : decode cX7_shareOut 51 = .ok (.ishr, 1) := by decide +kernel
theorem dX7_shareOut_52 : decode cX7_shareOut 52 = .ok (.iconst 1, 1) := by decide +kernel
theorem dX7_shareOut_53 : decode cX7_shareOut 53 = .ok (.iand, 1) := by decide +kernel
theorem dX7_shareOut_54 : decode cX7_shareOut 54 = .ok (.iconst 1, 1) := by decide +kernel
theorem dX7_shareOut_55 : decode cX7_shareOut 55 = .ok (.if_icmp .ne 103, 3) := by decide +kernel
theorem dX7_shareOut_58 : decode cX7_shareOut 58 = .ok (.iload 5, 2) := by decide +kernel
theorem dX7_shareOut_60 : decode cX7_shareOut 60 = .ok (.aload_n 1, 1) := by decide +kernel
theorem dX7_shareOut_61 : decode cX7_shareOut 61 = .ok (.iload 9, 2) := by decide +kernel
theorem dX7_shareOut_63 : decode cX7_shareOut 63 = .ok (.invokestatic 63, 3) := by decide +kernel
theorem dX7_shareOut_66 : decode cX7_shareOut 66 = .ok (.isub, 1) := by decide +kernel
theorem dX7_shareOut_67 : decode cX7_shareOut 67 = .ok (.istore 5, 2) := by decide +kernel
theorem dX7_shareOut_69 : decode cX7_shareOut 69 = .ok (.aload_n 0, 1) := by decide +kernel
theorem dX7_shareOut_70 : decode cX7_shareOut 70 = .ok (.getfield 20, 3) := by decide +kernel
theorem dX7_shareOut_73 : decode cX7_shareOut 73 = .ok (.iload 9, 2) := by decide +kernel
theorem dX7_shareOut_75 : decode cX7_shareOut 75 = .ok (.aload_n 0, 1) := by decide +kernel
theorem dX7_shareOut_76 : decode cX7_shareOut 76 = .ok (.getfield 13, 3) := by decide +kernel
theorem dX7_shareOut_79 : decode cX7_shareOut 79 = .ok (.iload 9, 2) := by decide +kernel
theorem dX7_shareOut_81 : decode cX7_shareOut 81 = .ok (.iconst 1, 1) := by decide +kernel
theorem dX7_shareOut_82 : decode cX7_shareOut 82 = .ok (.iadd, 1) := by decide +kernel
theorem dX7_shareOut_83 : decode cX7_shareOut 83 = .ok (.aaload, 1) := by decide +kernel
theorem dX7_shareOut_84 : decode cX7_shareOut 84 = .ok (.aload_n 2, 1) := by decide +kernel
theorem dX7_shareOut_85 : decode cX7_shareOut 85 = .ok (.getfield 60, 3) := by decide +kernel
theorem dX7_shareOut_88 : decode cX7_shareOut 88 = .ok (.iload 9, 2) := by decide +kernel
theorem dX7_shareOut_90 : decode cX7_shareOut 90 = .ok (.iaload, 1) := by decide +kernel
theorem dX7_shareOut_91 : decode cX7_shareOut 91 = .ok (.iload 5, 2) := by decide +kernel
theorem dX7_shareOut_93 : decode cX7_shareOut 93 = .ok (.iload 8, 2) := by decide +kernel
theorem dX7_shareOut_95 : decode cX7_shareOut 95 = .ok (.iload 6, 2) := by decide +kernel
theorem dX7_shareOut_97 : decode cX7_shareOut 97 = .ok (.iload 7, 2) := by decide +kernel
theorem dX7_shareOut_99 : decode cX7_shareOut 99 = .ok (.invokestatic 76, 3) := by decide +kernel
theorem dX7_shareOut_102 : decode cX7_shareOut 102 = .ok (.iastore, 1) := by decide +kernel
theorem dX7_shareOut_103 : decode cX7_shareOut 103 = .ok (.iload 5, 2) := by decide +kernel
theorem dX7_shareOut_105 : decode cX7_shareOut 105 = .ok (.aload_n 0, 1) := by decide +kernel
theorem dX7_shareOut_106 : decode cX7_shareOut 106 = .ok (.getfield 20, 3) := by decide +kernel
theorem dX7_shareOut_109 : decode cX7_shareOut 109 = .ok (.iload 9, 2) := by decide +kernel
theorem dX7_shareOut_111 : decode cX7_shareOut 111 = .ok (.iaload, 1) := by decide +kernel
theorem dX7_shareOut_112 : decode cX7_shareOut 112 = .ok (.iload 8, 2) := by decide +kernel
theorem dX7_shareOut_114 : decode cX7_shareOut 114 = .ok (.imul, 1) := by decide +kernel
theorem dX7_shareOut_115 : decode cX7_shareOut 115 = .ok (.isub, 1) := by decide +kernel
theorem dX7_shareOut_116 : decode cX7_shareOut 116 = .ok (.istore 5, 2) := by decide +kernel
theorem dX7_shareOut_118 : decode cX7_shareOut 118 = .ok (.iload 6, 2) := by decide +kernel
theorem dX7_shareOut_120 : decode cX7_shareOut 120 = .ok (.aload_n 0, 1) := by decide +kernel
theorem dX7_shareOut_121 : decode cX7_shareOut 121 = .ok (.getfield 20, 3) := by decide +kernel
theorem dX7_shareOut_124 : decode cX7_shareOut 124 = .ok (.iload 9, 2) := by decide +kernel
theorem dX7_shareOut_126 : decode cX7_shareOut 126 = .ok (.iaload, 1) := by decide +kernel
theorem dX7_shareOut_127 : decode cX7_shareOut 127 = .ok (.aload_n 2, 1) := by decide +kernel
theorem dX7_shareOut_128 : decode cX7_shareOut 128 = .ok (.getfield 60, 3) := by decide +kernel
theorem dX7_shareOut_131 : decode cX7_shareOut 131 = .ok (.iload 9, 2) := by decide +kernel
theorem dX7_shareOut_133 : decode cX7_shareOut 133 = .ok (.iaload, 1) := by decide +kernel
theorem dX7_shareOut_134 : decode cX7_shareOut 134 = .ok (.imul, 1) := by decide +kernel
theorem dX7_shareOut_135 : decode cX7_shareOut 135 = .ok (.isub, 1) := by decide +kernel
theorem dX7_shareOut_136 : decode cX7_shareOut 136 = .ok (.istore 6, 2) := by decide +kernel
theorem dX7_shareOut_138 : decode cX7_shareOut 138 = .ok (.iload 7, 2) := by decide +kernel
theorem dX7_shareOut_140 : decode cX7_shareOut 140 = .ok (.aload_n 0, 1) := by decide +kernel
theorem dX7_shareOut_141 : decode cX7_shareOut 141 = .ok (.getfield 20, 3) := by decide +kernel
theorem dX7_shareOut_144 : decode cX7_shareOut 144 = .ok (.iload 9, 2) := by decide +kernel
theorem dX7_shareOut_146 : decode cX7_shareOut 146 = .ok (.iaload, 1) := by decide +kernel
theorem dX7_shareOut_147 : decode cX7_shareOut 147 = .ok (.aload_n 2, 1) := by decide +kernel
theorem dX7_shareOut_148 : decode cX7_shareOut 148 = .ok (.getfield 60, 3) := by decide +kernel
theorem dX7_shareOut_151 : decode cX7_shareOut 151 = .ok (.iload 9, 2) := by decide +kernel
theorem dX7_shareOut_153 : decode cX7_shareOut 153 = .ok (.iaload, 1) := by decide +kernel
theorem dX7_shareOut_154 : decode cX7_shareOut 154 = .ok (.imul, 1) := by decide +kernel
theorem dX7_shareOut_155 : decode cX7_shareOut 155 = .ok (.isub, 1) := by decide +kernel
theorem dX7_shareOut_156 : decode cX7_shareOut 156 = .ok (.istore 7, 2) := by decide +kernel
theorem dX7_shareOut_158 : decode cX7_shareOut 158 = .ok (.iinc 9 1, 3) := by decide +kernel
theorem dX7_shareOut_161 : decode cX7_shareOut 161 = .ok (.goto (-131), 3) := by decide +kernel
theorem dX7_shareOut_164 : decode cX7_shareOut 164 = .ok (.return_, 1) := by decide +kernel
theorem dX7_hire_0 : decode cX7_hire 0 = .ok (.aload_n 0, 1) := by decide +kernel
theorem dX7_hire_1 : decode cX7_hire 1 = .ok (.getfield 80, 3) := by decide +kernel
theorem dX7_hire_4 : decode cX7_hire 4 = .ok (.iload_n 1, 1) := by decide +kernel
theorem dX7_hire_5 : decode cX7_hire 5 = .ok (.iaload, 1) := by decide +kernel
theorem dX7_hire_6 : decode cX7_hire 6 = .ok (.bipush 64, 2) := by decide +kernel
theorem dX7_hire_8 : decode cX7_hire 8 = .ok (.imul, 1) := by decide +kernel
theorem dX7_hire_9 : decode cX7_hire 9 = .ok (.iconst 1, 1) := by decide +kernel
theorem dX7_hire_10 : decode cX7_hire 10 = .ok (.iload_n 1, 1) := by decide +kernel
theorem dX7_hire_11 : decode cX7_hire 11 = .ok (.ishl, 1) := by decide +kernel
theorem dX7_hire_12 : decode cX7_hire 12 = .ok (.iadd, 1) := by decide +kernel
theorem dX7_hire_13 : decode cX7_hire 13 = .ok (.ireturn, 1) := by decide +kernel
theorem dX7_fill_0 : decode cX7_fill 0 = .ok (.aload_n 0, 1) := by decide +kernel
theorem dX7_fill_1 : decode cX7_fill 1 = .ok (.getfield 13, 3) := by decide +kernel
theorem dX7_fill_4 : decode cX7_fill 4 = .ok (.iload_n 1, 1) := by decide +kernel
theorem dX7_fill_5 : decode cX7_fill 5 = .ok (.aaload, 1) := by decide +kernel
theorem dX7_fill_6 : decode cX7_fill 6 = .ok (.astore 5, 2) := by decide +kernel
theorem dX7_fill_8 : decode cX7_fill 8 = .ok (.aload_n 0, 1) := by decide +kernel
theorem dX7_fill_9 : decode cX7_fill 9 = .ok (.getfield 13, 3) := by decide +kernel
theorem dX7_fill_12 : decode cX7_fill 12 = .ok (.iload_n 1, 1) := by decide +kernel
theorem dX7_fill_13 : decode cX7_fill 13 = .ok (.iconst 1, 1) := by decide +kernel
theorem dX7_fill_14 : decode cX7_fill 14 = .ok (.iadd, 1) := by decide +kernel
theorem dX7_fill_15 : decode cX7_fill 15 = .ok (.aaload, 1) := by decide +kernel
theorem dX7_fill_16 : decode cX7_fill 16 = .ok (.astore 6, 2) := by decide +kernel
theorem dX7_fill_18 : decode cX7_fill 18 = .ok (.iconst 0, 1) := by decide +kernel
theorem dX7_fill_19 : decode cX7_fill 19 = .ok (.istore 7, 2) := by decide +kernel
theorem dX7_fill_21 : decode cX7_fill 21 = .ok (.iload 7, 2) := by decide +kernel
theorem dX7_fill_23 : decode cX7_fill 23 = .ok (.aload_n 0, 1) := by decide +kernel
theorem dX7_fill_24 : decode cX7_fill 24 = .ok (.getfield 34, 3) := by decide +kernel
theorem dX7_fill_27 : decode cX7_fill 27 = .ok (.if_icmp .gt 76, 3) := by decide +kernel
theorem dX7_fill_30 : decode cX7_fill 30 = .ok (.ldc 43, 2) := by decide +kernel
theorem dX7_fill_32 : decode cX7_fill 32 = .ok (.istore 8, 2) := by decide +kernel
theorem dX7_fill_34 : decode cX7_fill 34 = .ok (.iload 7, 2) := by decide +kernel
theorem dX7_fill_36 : decode cX7_fill 36 = .ok (.iload_n 2, 1) := by decide +kernel
theorem dX7_fill_37 : decode cX7_fill 37 = .ok (.if_icmp .lt 36, 3) := by decide +kernel
theorem dX7_fill_40 : decode cX7_fill 40 = .ok (.iload 7, 2) := by decide +kernel
theorem dX7_fill_42 : decode cX7_fill 42 = .ok (.iload_n 2, 1) := by decide +kernel
theorem dX7_fill_43 : decode cX7_fill 43 = .ok (.isub, 1) := by decide +kernel
theorem dX7_fill_44 : decode cX7_fill 44 = .ok (.istore 9, 2) := by decide +kernel
theorem dX7_fill_46 : decode cX7_fill 46 = .ok (.ldc 43, 2) := by decide +kernel
theorem dX7_fill_48 : decode cX7_fill 48 = .ok (.aload 6, 2) := by decide +kernel
theorem dX7_fill_50 : decode cX7_fill 50 = .ok (.iload 9, 2) := by decide +kernel
theorem dX7_fill_52 : decode cX7_fill 52 = .ok (.iaload, 1) := by decide +kernel
theorem dX7_fill_53 : decode cX7_fill 53 = .ok (.iload_n 3, 1) := by decide +kernel
theorem dX7_fill_54 : decode cX7_fill 54 = .ok (.iadd, 1) := by decide +kernel
theorem dX7_fill_55 : decode cX7_fill 55 = .ok (.aload_n 0, 1) := by decide +kernel
theorem dX7_fill_56 : decode cX7_fill 56 = .ok (.getfield 16, 3) := by decide +kernel
theorem dX7_fill_59 : decode cX7_fill 59 = .ok (.iload 9, 2) := by decide +kernel
theorem dX7_fill_61 : decode cX7_fill 61 = .ok (.iaload, 1) := by decide +kernel
theorem dX7_fill_62 : decode cX7_fill 62 = .ok (.invokestatic 28, 3) := by decide +kernel
theorem dX7_fill_65 : decode cX7_fill 65 = .ok (.iload 4, 2) := by decide +kernel
theorem dX7_fill_67 : decode cX7_fill 67 = .ok (.iadd, 1) := by decide +kernel
theorem dX7_fill_68 : decode cX7_fill 68 = .ok (.invokestatic 28, 3) := by decide +kernel
theorem dX7_fill_71 : decode cX7_fill 71 = .ok (.istore 8, 2) := by decide +kernel
theorem dX7_fill_73 : decode cX7_fill 73 = .ok (.aload_n 0, 1) := by decide +kernel
theorem dX7_fill_74 : decode cX7_fill 74 = .ok (.getfield 16, 3) := by decide +kernel
theorem dX7_fill_77 : decode cX7_fill 77 = .ok (.iload 7, 2) := by decide +kernel
theorem dX7_fill_79 : decode cX7_fill 79 = .ok (.iload 8, 2) := by decide +kernel
theorem dX7_fill_81 : decode cX7_fill 81 = .ok (.iastore, 1) := by decide +kernel
theorem dX7_fill_82 : decode cX7_fill 82 = .ok (.aload 5, 2) := by decide +kernel
theorem dX7_fill_84 : decode cX7_fill 84 = .ok (.iload 7, 2) := by decide +kernel
theorem dX7_fill_86 : decode cX7_fill 86 = .ok (.aload 6, 2) := by decide +kernel
theorem dX7_fill_88 : decode cX7_fill 88 = .ok (.iload 7, 2) := by decide +kernel
theorem dX7_fill_90 : decode cX7_fill 90 = .ok (.iaload, 1) := by decide +kernel
theorem dX7_fill_91 : decode cX7_fill 91 = .ok (.iload 8, 2) := by decide +kernel
theorem dX7_fill_93 : decode cX7_fill 93 = .ok (.invokestatic 28, 3) := by decide +kernel
theorem dX7_fill_96 : decode cX7_fill 96 = .ok (.iastore, 1) := by decide +kernel
theorem dX7_fill_97 : decode cX7_fill 97 = .ok (.iinc 7 1, 3) := by decide +kernel
theorem dX7_fill_100 : decode cX7_fill 100 = .ok (.goto (-79), 3) := by decide +kernel
theorem dX7_fill_103 : decode cX7_fill 103 = .ok (.return_, 1) := by decide +kernel
theorem dX7_fewestOf_0 : decode cX7_fewestOf 0 = .ok (.iload 5, 2) := by decide +kernel
theorem dX7_fewestOf_2 : decode cX7_fewestOf 2 = .ok (.iload 4, 2) := by decide +kernel
theorem dX7_fewestOf_4 : decode cX7_fewestOf 4 = .ok (.iload_n 1, 1) := by decide +kernel
theorem dX7_fewestOf_5 : decode cX7_fewestOf 5 = .ok (.iadd, 1) := by decide +kernel
theorem dX7_fewestOf_6 : decode cX7_fewestOf 6 = .ok (.iconst 1, 1) := by decide +kernel
theorem dX7_fewestOf_7 : decode cX7_fewestOf 7 = .ok (.isub, 1) := by decide +kernel
theorem dX7_fewestOf_8 : decode cX7_fewestOf 8 = .ok (.invokestatic 28, 3) := by decide +kernel
theorem dX7_fewestOf_11 : decode cX7_fewestOf 11 = .ok (.istore 6, 2) := by decide +kernel
theorem dX7_fewestOf_13 : decode cX7_fewestOf 13 = .ok (.iconst 1, 1) := by decide +kernel
theorem dX7_fewestOf_14 : decode cX7_fewestOf 14 = .ok (.istore 7, 2) := by decide +kernel
theorem dX7_fewestOf_16 : decode cX7_fewestOf 16 = .ok (.iload 7, 2) := by decide +kernel
theorem dX7_fewestOf_18 : decode cX7_fewestOf 18 = .ok (.sipush 1097, 3) := by decide +kernel
theorem dX7_fewestOf_21 : decode cX7_fewestOf 21 = .ok (.if_icmp .gt 75, 3) := by decide +kernel
theorem dX7_fewestOf_24 : decode cX7_fewestOf 24 = .ok (.iload 7, 2) := by decide +kernel
theorem dX7_fewestOf_26 : decode cX7_fewestOf 26 = .ok (.iload_n 1, 1) := by decide +kernel
theorem dX7_fewestOf_27 : decode cX7_fewestOf 27 = .ok (.imul, 1) := by decide +kernel
theorem dX7_fewestOf_28 : decode cX7_fewestOf 28 = .ok (.iload 6, 2) := by decide +kernel
theorem dX7_fewestOf_30 : decode cX7_fewestOf 30 = .ok (.if_icmp .gt 66, 3) := by decide +kernel
theorem dX7_fewestOf_33 : decode cX7_fewestOf 33 = .ok (.iload 6, 2) := by decide +kernel
theorem dX7_fewestOf_35 : decode cX7_fewestOf 35 = .ok (.iload 7, 2) := by decide +kernel
theorem dX7_fewestOf_37 : decode cX7_fewestOf 37 = .ok (.iload_n 1, 1) := by decide +kernel
theorem dX7_fewestOf_38 : decode cX7_fewestOf 38 = .ok (.imul, 1) := by decide +kernel
theorem dX7_fewestOf_39 : decode cX7_fewestOf 39 = .ok (.isub, 1) := by decide +kernel
theorem dX7_fewestOf_40 : decode cX7_fewestOf 40 = .ok (.sipush 1097, 3) := by decide +kernel
theorem dX7_fewestOf_43 : decode cX7_fewestOf 43 = .ok (.invokestatic 28, 3) := by decide +kernel
theorem dX7_fewestOf_46 : decode cX7_fewestOf 46 = .ok (.istore 8, 2) := by decide +kernel
theorem dX7_fewestOf_48 : decode cX7_fewestOf 48 = .ok (.iconst 0, 1) := by decide +kernel
theorem dX7_fewestOf_49 : decode cX7_fewestOf 49 = .ok (.iload 4, 2) := by decide +kernel
theorem dX7_fewestOf_51 : decode cX7_fewestOf 51 = .ok (.iload 7, 2) := by decide +kernel
theorem dX7_fewestOf_53 : decode cX7_fewestOf 53 = .ok (.iload_n 1, 1) := by decide +kernel
theorem dX7_fewestOf_54 : decode cX7_fewestOf 54 = .ok (.imul, 1) := by decide +kernel
theorem dX7_fewestOf_55 : decode cX7_fewestOf 55 = .ok (.isub, 1) := by decide +kernel
theorem dX7_fewestOf_56 : decode cX7_fewestOf 56 = .ok (.invokestatic 83, 3) := by decide +kernel
theorem dX7_fewestOf_59 : decode cX7_fewestOf 59 = .ok (.istore 9, 2) := by decide +kernel
theorem dX7_fewestOf_61 : decode cX7_fewestOf 61 = .ok (.iload 9, 2) := by decide +kernel
theorem dX7_fewestOf_63 : decode cX7_fewestOf 63 = .ok (.iload 8, 2) := by decide +kernel
theorem dX7_fewestOf_65 : decode cX7_fewestOf 65 = .ok (.if_icmp .gt 25, 3) := by decide +kernel
theorem dX7_fewestOf_68 : decode cX7_fewestOf 68 = .ok (.aload_n 0, 1) := by decide +kernel
theorem dX7_fewestOf_69 : decode cX7_fewestOf 69 = .ok (.iload 9, 2) := by decide +kernel
theorem dX7_fewestOf_71 : decode cX7_fewestOf 71 = .ok (.iaload, 1) := by decide +kernel
theorem dX7_fewestOf_72 : decode cX7_fewestOf 72 = .ok (.iload_n 2, 1) := by decide +kernel
theorem dX7_fewestOf_73 : decode cX7_fewestOf 73 = .ok (.iload 7, 2) := by decide +kernel
theorem dX7_fewestOf_75 : decode cX7_fewestOf 75 = .ok (.iload_n 3, 1) := by decide +kernel
theorem dX7_fewestOf_76 : decode cX7_fewestOf 76 = .ok (.imul, 1) := by decide +kernel
theorem dX7_fewestOf_77 : decode cX7_fewestOf 77 = .ok (.isub, 1) := by decide +kernel
theorem dX7_fewestOf_78 : decode cX7_fewestOf 78 = .ok (.if_icmp .ne 6, 3) := by decide +kernel
theorem dX7_fewestOf_81 : decode cX7_fewestOf 81 = .ok (.iload 7, 2) := by decide +kernel
theorem dX7_fewestOf_83 : decode cX7_fewestOf 83 = .ok (.ireturn, 1) := by decide +kernel
theorem dX7_fewestOf_84 : decode cX7_fewestOf 84 = .ok (.iinc 9 1, 3) := by decide +kernel
theorem dX7_fewestOf_87 : decode cX7_fewestOf 87 = .ok (.goto (-26), 3) := by decide +kernel
theorem dX7_fewestOf_90 : decode cX7_fewestOf 90 = .ok (.iinc 7 1, 3) := by decide +kernel
theorem dX7_fewestOf_93 : decode cX7_fewestOf 93 = .ok (.goto (-77), 3) := by decide +kernel
theorem dX7_fewestOf_96 : decode cX7_fewestOf 96 = .ok (.iconst 0, 1) := by decide +kernel
theorem dX7_fewestOf_97 : decode cX7_fewestOf 97 = .ok (.ireturn, 1) := by decide +kernel
end
section
theorem dX8_init_0 : decode cX8_init 0 = .ok (.aload_n 0, 1) := by decide +kernel
theorem dX8_init_1 : decode cX8_init 1 = .ok (.invokespecial 3, 3) := by decide +kernel
theorem dX8_init_4 : decode cX8_init 4 = .ok (.aload_n 0, 1) := by decide +kernel
theorem dX8_init_5 : decode cX8_init 5 = .ok (.new 9, 3) := by decide +kernel
theorem dX8_init_8 : decode cX8_init 8 = .ok (.dup, 1) := by decide +kernel
theorem dX8_init_9 : decode cX8_init 9 = .ok (.invokespecial 11, 3) := by decide +kernel
theorem dX8_init_12 : decode cX8_init 12 = .ok (.putfield 12, 3) := by decide +kernel
theorem dX8_init_15 : decode cX8_init 15 = .ok (.aload_n 0, 1) := by decide +kernel
theorem dX8_init_16 : decode cX8_init 16 = .ok (.new 16, 3) := by decide +kernel
theorem dX8_init_19 : decode cX8_init 19 = .ok (.dup, 1) := by decide +kernel
theorem dX8_init_20 : decode cX8_init 20 = .ok (.invokespecial 18, 3) := by decide +kernel
theorem dX8_init_23 : decode cX8_init 23 = .ok (.putfield 19, 3) := by decide +kernel
theorem dX8_init_26 : decode cX8_init 26 = .ok (.aload_n 0, 1) := by decide +kernel
theorem dX8_init_27 : decode cX8_init 27 = .ok (.new 23, 3) := by decide +kernel
theorem dX8_init_30 : decode cX8_init 30 = .ok (.dup, 1) := by decide +kernel
theorem dX8_init_31 : decode cX8_init 31 = .ok (.invokespecial 25, 3) := by decide +kernel
theorem dX8_init_34 : decode cX8_init 34 = .ok (.putfield 26, 3) := by decide +kernel
theorem dX8_init_37 : decode cX8_init 37 = .ok (.aload_n 0, 1) := by decide +kernel
theorem dX8_init_38 : decode cX8_init 38 = .ok (.new 23, 3) := by decide +kernel
theorem dX8_init_41 : decode cX8_init 41 = .ok (.dup, 1) := by decide +kernel
theorem dX8_init_42 : decode cX8_init 42 = .ok (.invokespecial 25, 3) := by decide +kernel
theorem dX8_init_45 : decode cX8_init 45 = .ok (.putfield 30, 3) := by decide +kernel
theorem dX8_init_48 : decode cX8_init 48 = .ok (.aload_n 0, 1) := by decide +kernel
theorem dX8_init_49 : decode cX8_init 49 = .ok (.new 33, 3) := by decide +kernel
theorem dX8_init_52 : decode cX8_init 52 = .ok (.dup, 1) := by decide +kernel
theorem dX8_init_53 : decode cX8_init 53 = .ok (.invokespecial 35, 3) := by decide +kernel
theorem dX8_init_56 : decode cX8_init 56 = .ok (.putfield 36, 3) := by decide +kernel
theorem dX8_init_59 : decode cX8_init 59 = .ok (.aload_n 0, 1) := by decide +kernel
theorem dX8_init_60 : decode cX8_init 60 = .ok (.iconst 2, 1) := by decide +kernel
theorem dX8_init_61 : decode cX8_init 61 = .ok (.anewarray 33, 3) := by decide +kernel
theorem dX8_init_64 : decode cX8_init 64 = .ok (.dup, 1) := by decide +kernel
theorem dX8_init_65 : decode cX8_init 65 = .ok (.iconst 0, 1) := by decide +kernel
theorem dX8_init_66 : decode cX8_init 66 = .ok (.new 33, 3) := by decide +kernel
theorem dX8_init_69 : decode cX8_init 69 = .ok (.dup, 1) := by decide +kernel
theorem dX8_init_70 : decode cX8_init 70 = .ok (.invokespecial 35, 3) := by decide +kernel
theorem dX8_init_73 : decode cX8_init 73 = .ok (.aastore, 1) := by decide +kernel
theorem dX8_init_74 : decode cX8_init 74 = .ok (.dup, 1) := by decide +kernel
theorem dX8_init_75 : decode cX8_init 75 = .ok (.iconst 1, 1) := by decide +kernel
theorem dX8_init_76 : decode cX8_init 76 = .ok (.new 33, 3) := by decide +kernel
theorem dX8_init_79 : decode cX8_init 79 = .ok (.dup, 1) := by decide +kernel
theorem dX8_init_80 : decode cX8_init 80 = .ok (.invokespecial 35, 3) := by decide +kernel
theorem dX8_init_83 : decode cX8_init 83 = .ok (.aastore, 1) := by decide +kernel
theorem dX8_init_84 : decode cX8_init 84 = .ok (.putfield 40, 3) := by decide +kernel
theorem dX8_init_87 : decode cX8_init 87 = .ok (.aload_n 0, 1) := by decide +kernel
theorem dX8_init_88 : decode cX8_init 88 = .ok (.new 44, 3) := by decide +kernel
theorem dX8_init_91 : decode cX8_init 91 = .ok (.dup, 1) := by decide +kernel
theorem dX8_init_92 : decode cX8_init 92 = .ok (.invokespecial 46, 3) := by decide +kernel
theorem dX8_init_95 : decode cX8_init 95 = .ok (.putfield 47, 3) := by decide +kernel
theorem dX8_init_98 : decode cX8_init 98 = .ok (.aload_n 0, 1) := by decide +kernel
theorem dX8_init_99 : decode cX8_init 99 = .ok (.new 51, 3) := by decide +kernel
theorem dX8_init_102 : decode cX8_init 102 = .ok (.dup, 1) := by decide +kernel
theorem dX8_init_103 : decode cX8_init 103 = .ok (.invokespecial 53, 3) := by decide +kernel
theorem dX8_init_106 : decode cX8_init 106 = .ok (.putfield 54, 3) := by decide +kernel
theorem dX8_init_109 : decode cX8_init 109 = .ok (.aload_n 0, 1) := by decide +kernel
theorem dX8_init_110 : decode cX8_init 110 = .ok (.new 58, 3) := by decide +kernel
theorem dX8_init_113 : decode cX8_init 113 = .ok (.dup, 1) := by decide +kernel
theorem dX8_init_114 : decode cX8_init 114 = .ok (.invokespecial 60, 3) := by decide +kernel
theorem dX8_init_117 : decode cX8_init 117 = .ok (.putfield 61, 3) := by decide +kernel
theorem dX8_init_120 : decode cX8_init 120 = .ok (.aload_n 0, 1) := by decide +kernel
theorem dX8_init_121 : decode cX8_init 121 = .ok (.new 65, 3) := by decide +kernel
theorem dX8_init_124 : decode cX8_init 124 = .ok (.dup, 1) := by decide +kernel
theorem dX8_init_125 : decode cX8_init 125 = .ok (.invokespecial 67, 3) := by decide +kernel
theorem dX8_init_128 : decode cX8_init 128 = .ok (.putfield 68, 3) := by decide +kernel
theorem dX8_init_131 : decode cX8_init 131 = .ok (.return_, 1) := by decide +kernel
theorem dX8_write_0 : decode cX8_write 0 = .ok (.iload_n 1, 1) := by decide +kernel
theorem dX8_write_1 : decode cX8_write 1 = .ok (.iconst 1, 1) := by decide +kernel
theorem dX8_write_2 : decode cX8_write 2 = .ok (.bipush 8, 2) := by decide +kernel
theorem dX8_write_4 : decode cX8_write 4 = .ok (.invokestatic 72, 3) := by decide +kernel
theorem dX8_write_7 : decode cX8_write 7 = .ok (.ifCond .ne 6, 3) := by decide +kernel
theorem dX8_write_10 : decode cX8_write 10 = .ok (.bipush (-2), 2) := by decide +kernel
theorem dX8_write_12 : decode cX8_write 12 = .ok (.ireturn, 1) := by decide +kernel
theorem dX8_write_13 : decode cX8_write 13 = .ok (.aload_n 0, 1) := by decide +kernel
theorem dX8_write_14 : decode cX8_write 14 = .ok (.getfield 12, 3) := by decide +kernel
theorem dX8_write_17 : decode cX8_write 17 = .ok (.getfield 76, 3) := by decide +kernel
theorem dX8_write_20 : decode cX8_write 20 = .ok (.iload_n 1, 1) := by decide +kernel
theorem dX8_write_21 : decode cX8_write 21 = .ok (.iadd, 1) := by decide +kernel
theorem dX8_write_22 : decode cX8_write 22 = .ok (.bipush 72, 2) := by decide +kernel
theorem dX8_write_24 : decode cX8_write 24 = .ok (.if_icmp .le 6, 3) := by decide +kernel
theorem dX8_write_27 : decode cX8_write 27 = .ok (.bipush (-4), 2) := by decide +kernel
theorem dX8_write_29 : decode cX8_write 29 = .ok (.ireturn, 1) := by decide +kernel
theorem dX8_write_30 : decode cX8_write 30 = .ok (.aload_n 0, 1) := by decide +kernel
theorem dX8_write_31 : decode cX8_write 31 = .ok (.getfield 12, 3) := by decide +kernel
theorem dX8_write_34 : decode cX8_write 34 = .ok (.iload_n 1, 1) := by decide +kernel
theorem dX8_write_35 : decode cX8_write 35 = .ok (.lload_n 2, 1) := by decide +kernel
theorem dX8_write_36 : decode cX8_write 36 = .ok (.invokevirtual 80, 3) := by decide +kernel
theorem dX8_write_39 : decode cX8_write 39 = .ok (.aload_n 0, 1) := by decide +kernel
theorem dX8_write_40 : decode cX8_write 40 = .ok (.getfield 12, 3) := by decide +kernel
theorem dX8_write_43 : decode cX8_write 43 = .ok (.getfield 76, 3) := by decide +kernel
theorem dX8_write_46 : decode cX8_write 46 = .ok (.ireturn, 1) := by decide +kernel
theorem dX8_wipe_0 : decode cX8_wipe 0 = .ok (.aload_n 0, 1) := by decide +kernel
theorem dX8_wipe_1 : decode cX8_wipe 1 = .ok (.getfield 12, 3) := by decide +kernel
theorem dX8_wipe_4 : decode cX8_wipe 4 = .ok (.getfield 76, 3) := by decide +kernel
theorem dX8_wipe_7 : decode cX8_wipe 7 = .ok (.istore_n 1, 1) := by decide +kernel
theorem dX8_wipe_8 : decode cX8_wipe 8 = .ok (.aload_n 0, 1) := by decide +kernel
theorem dX8_wipe_9 : decode cX8_wipe 9 = .ok (.getfield 12, 3) := by decide +kernel
theorem dX8_wipe_12 : decode cX8_wipe 12 = .ok (.iconst 0, 1) := by decide +kernel
theorem dX8_wipe_13 : decode cX8_wipe 13 = .ok (.putfield 76, 3) := by decide +kernel
theorem dX8_wipe_16 : decode cX8_wipe 16 = .ok (.iload_n 1, 1) := by decide +kernel
theorem dX8_wipe_17 : decode cX8_wipe 17 = .ok (.ireturn, 1) := by decide +kernel
theorem dX8_fault_0 : decode cX8_fault 0 = .ok (.aload_n 0, 1) := by decide +kernel
theorem dX8_fault_1 : decode cX8_fault 1 = .ok (.getfield 19, 3) := by decide +kernel
theorem dX8_fault_4 : decode cX8_fault 4 = .ok (.aload_n 0, 1) := by decide +kernel
theorem dX8_fault_5 : decode cX8_fault 5 = .ok (.getfield 12, 3) := by decide +kernel
theorem dX8_fault_8 : decode cX8_fault 8 = .ok (.aload_n 0, 1) := by decide +kernel
theorem dX8_fault_9 : decode cX8_fault 9 = .ok (.getfield 30, 3) := by decide +kernel
theorem dX8_fault_12 : decode cX8_fault 12 = .ok (.invokevirtual 84, 3) := by decide +kernel
theorem dX8_fault_15 : decode cX8_fault 15 = .ok (.ireturn, 1) := by decide +kernel
theorem dX8_market_0 : decode cX8_market 0 = .ok (.aload_n 0, 1) := by decide +kernel
theorem dX8_market_1 : decode cX8_market 1 = .ok (.getfield 19, 3) := by decide +kernel
theorem dX8_market_4 : decode cX8_market 4 = .ok (.aload_n 0, 1) := by decide +kernel
theorem dX8_market_5 : decode cX8_market 5 = .ok (.getfield 12, 3) := by decide +kernel
theorem dX8_market_8 : decode cX8_market 8 = .ok (.aload_n 0, 1) := by decide +kernel
theorem dX8_market_9 : decode cX8_market 9 = .ok (.getfield 30, 3) := by decide +kernel
theorem dX8_market_12 : decode cX8_market 12 = .ok (.invokevirtual 84, 3) := by decide +kernel
theorem dX8_market_15 : decode cX8_market 15 = .ok (.bipush (-9), 2) := by decide +kernel
theorem dX8_market_17 : decode cX8_market 17 = .ok (.if_icmp .eq 6, 3) := by decide +kernel
theorem dX8_market_20 : decode cX8_market 20 = .ok (.bipush (-3), 2) := by decide +kernel
theorem dX8_market_22 : decode cX8_market 22 = .ok (.ireturn, 1) := by decide +kernel
theorem dX8_market_23 : decode cX8_market 23 = .ok (.aload_n 0, 1) := by decide +kernel
theorem dX8_market_24 : decode cX8_market 24 = .ok (.getfield 26, 3) := by decide +kernel
theorem dX8_market_27 : decode cX8_market 27 = .ok (.astore_n 1, 1) := by decide +kernel
theorem dX8_market_28 : decode cX8_market 28 = .ok (.aload_n 0, 1) := by decide +kernel
theorem dX8_market_29 : decode cX8_market 29 = .ok (.aload_n 0, 1) := by decide +kernel
theorem dX8_market_30 : decode cX8_market 30 = .ok (.getfield 30, 3) := by decide +kernel
theorem dX8_market_33 : decode cX8_market 33 = .ok (.putfield 26, 3) := by decide +kernel
theorem dX8_market_36 : decode cX8_market 36 = .ok (.aload_n 0, 1) := by decide +kernel
theorem dX8_market_37 : decode cX8_market 37 = .ok (.aload_n 1, 1) := by decide +kernel
theorem dX8_market_38 : decode cX8_market 38 = .ok (.putfield 30, 3) := by decide +kernel
theorem dX8_market_41 : decode cX8_market 41 = .ok (.aload_n 0, 1) := by decide +kernel
theorem dX8_market_42 : decode cX8_market 42 = .ok (.getfield 36, 3) := by decide +kernel
theorem dX8_market_45 : decode cX8_market 45 = .ok (.aload_n 0, 1) := by decide +kernel
theorem dX8_market_46 : decode cX8_market 46 = .ok (.getfield 26, 3) := by decide +kernel
theorem dX8_market_49 : decode cX8_market 49 = .ok (.invokevirtual 88, 3) := by decide +kernel
theorem dX8_market_52 : decode cX8_market 52 = .ok (.iconst 0, 1) := by decide +kernel
theorem dX8_market_53 : decode cX8_market 53 = .ok (.istore_n 2, 1) := by decide +kernel
theorem dX8_market_54 : decode cX8_market 54 = .ok (.iload_n 2, 1) := by decide +kernel
theorem dX8_market_55 : decode cX8_market 55 = .ok (.iconst 2, 1) := by decide +kernel
theorem dX8_market_56 : decode cX8_market 56 = .ok (.if_icmp .ge 19, 3) := by decide +kernel
theorem dX8_market_59 : decode cX8_market 59 = .ok (.aload_n 0, 1) := by decide +kernel
theorem dX8_market_60 : decode cX8_market 60 = .ok (.getfield 40, 3) := by decide +kernel
theorem dX8_market_63 : decode cX8_market 63 = .ok (.iload_n 2, 1) := by decide +kernel
theorem dX8_market_64 : decode cX8_market 64 = .ok (.aaload, 1) := by decide +kernel
theorem dX8_market_65 : decode cX8_market 65 = .ok (.iconst 0, 1) := by decide +kernel
theorem dX8_market_66 : decode cX8_market 66 = .ok (.putfield 92, 3) := by decide +kernel
theorem dX8_market_69 : decode cX8_market 69 = .ok (.iinc 2 1, 3) := by decide +kernel
theorem dX8_market_72 : decode cX8_market 72 = .ok (.goto (-18), 3) := by decide +kernel
theorem dX8_market_75 : decode cX8_market 75 = .ok (.aload_n 0, 1) := by decide +kernel
theorem dX8_market_76 : decode cX8_market 76 = .ok (.getfield 26, 3) := by decide +kernel
theorem dX8_market_79 : decode cX8_market 79 = .ok (.getfield 96, 3) := by decide +kernel
theorem dX8_market_82 : decode cX8_market 82 = .ok (.ireturn, 1) := by decide +kernel
theorem dX8_person_0 : decode cX8_person 0 = .ok (.aload_n 0, 1) := by decide +kernel
theorem dX8_person_1 : decode cX8_person 1 = .ok (.getfield 26, 3) := by decide +kernel
theorem dX8_person_4 : decode cX8_person 4 = .ok (.iload_n 1, 1) := by decide +kernel
theorem dX8_person_5 : decode cX8_person 5 = .ok (.invokevirtual 99, 3) := by decide +kernel
theorem dX8_person_8 : decode cX8_person 8 = .ok (.ifCond .ne 5, 3) := by decide +kernel
theorem dX8_person_11 : decode cX8_person 11 = .ok (.iconst (-1), 1) := by decide +kernel
theorem dX8_person_12 : decode cX8_person 12 = .ok (.ireturn, 1) := by decide +kernel
theorem dX8_person_13 : decode cX8_person 13 = .ok (.iload_n 2, 1) := by decide +kernel
theorem dX8_person_14 : decode cX8_person 14 = .ok (.tableswitch 97 0 5 #[38, 48, 58, 64, 70, 80], 38) := by decide +kernel
theorem dX8_person_52 : decode cX8_person 52 = .ok (.aload_n 0, 1) := by decide +kernel
theorem dX8_person_53 : decode cX8_person 53 = .ok (.getfield 36, 3) := by decide +kernel
theorem dX8_person_56 : decode cX8_person 56 = .ok (.getfield 103, 3) := by decide +kernel
theorem dX8_person_59 : decode cX8_person 59 = .ok (.iload_n 1, 1) := by decide +kernel
theorem dX8_person_60 : decode cX8_person 60 = .ok (.iaload, 1) := by decide +kernel
theorem dX8_person_61 : decode cX8_person 61 = .ok (.ireturn, 1) := by decide +kernel
theorem dX8_person_62 : decode cX8_person 62 = .ok (.aload_n 0, 1) := by decide +kernel
theorem dX8_person_63 : decode cX8_person 63 = .ok (.getfield 26, 3) := by decide +kernel
theorem dX8_person_66 : decode cX8_person 66 = .ok (.getfield 107, 3) := by decide +kernel
theorem dX8_person_69 : decode cX8_person 69 = .ok (.iload_n 1, 1) := by decide +kernel
theorem dX8_person_70 : decode cX8_person 70 = .ok (.iaload, 1) := by decide +kernel
theorem dX8_person_71 : decode cX8_person 71 = .ok (.ireturn, 1) := by decide +kernel
theorem dX8_person_72 : decode cX8_person 72 = .ok (.aload_n 0, 1) := by decide +kernel
theorem dX8_person_73 : decode cX8_person 73 = .ok (.iload_n 1, 1) := by decide +kernel
theorem dX8_person_74 : decode cX8_person 74 = .ok (.invokevirtual 110, 3) := by decide +kernel
theorem dX8_person_77 : decode cX8_person 77 = .ok (.ireturn, 1) := by decide +kernel
theorem dX8_person_78 : decode cX8_person 78 = .ok (.aload_n 0, 1) := by decide +kernel
theorem dX8_person_79 : decode cX8_person 79 = .ok (.iload_n 1, 1) := by decide +kernel
theorem dX8_person_80 : decode cX8_person 80 = .ok (.invokevirtual 114, 3) := by decide +kernel
theorem dX8_person_83 : decode cX8_person 83 = .ok (.ireturn, 1) := by decide +kernel
theorem dX8_person_84 : decode cX8_person 84 = .ok (.aload_n 0, 1) := by decide +kernel
theorem dX8_person_85 : decode cX8_person 85 = .ok (.getfield 26, 3) := by decide +kernel
theorem dX8_person_88 : decode cX8_person 88 = .ok (.getfield 117, 3) := by decide +kernel
theorem dX8_person_91 : decode cX8_person 91 = .ok (.iload_n 1, 1) := by decide +kernel
theorem dX8_person_92 : decode cX8_person 92 = .ok (.iaload, 1) := by decide +kernel
theorem dX8_person_93 : decode cX8_person 93 = .ok (.ireturn, 1) := by decide +kernel
theorem dX8_person_94 : decode cX8_person 94 = .ok (.aload_n 0, 1) := by decide +kernel
theorem dX8_person_95 : decode cX8_person 95 = .ok (.getfield 26, 3) := by decide +kernel
theorem dX8_person_98 : decode cX8_person 98 = .ok (.iload_n 1, 1) := by decide +kernel
theorem dX8_person_99 : decode cX8_person 99 = .ok (.invokevirtual 120, 3) := by decide +kernel
theorem dX8_person_102 : decode cX8_person 102 = .ok (.ifCond .eq 7, 3) := by decide +kernel
theorem dX8_person_105 : decode cX8_person 105 = .ok (.iconst 1, 1) := by decide +kernel
theorem dX8_person_106 : decode cX8_person 106 = .ok (.goto 4, 3) := by decide +kernel
theorem dX8_person_109 : decode cX8_person 109 = .ok (.iconst 0, 1) := by decide +kernel
theorem dX8_person_110 : decode cX8_person 110 = .ok (.ireturn, 1) := by decide +kernel
theorem dX8_person_111 : decode cX8_person 111 = .ok (.bipush (-2), 2) := by decide +kernel
theorem dX8_person_113 : decode cX8_person 113 = .ok (.ireturn, 1) := by decide +kernel
theorem dX8_counter_0 : decode cX8_counter 0 = .ok (.aload_n 0, 1) := by decide +kernel
theorem dX8_counter_1 : decode cX8_counter 1 = .ok (.getfield 26, 3) := by decide +kernel
theorem dX8_counter_4 : decode cX8_counter 4 = .ok (.iload_n 1, 1) := by decide +kernel
theorem dX8_counter_5 : decode cX8_counter 5 = .ok (.invokevirtual 123, 3) := by decide +kernel
theorem dX8_counter_8 : decode cX8_counter 8 = .ok (.ifCond .ne 5, 3) := by decide +kernel
theorem dX8_counter_11 : decode cX8_counter 11 = .ok (.iconst (-1), 1) := by decide +kernel
theorem dX8_counter_12 : decode cX8_counter 12 = .ok (.ireturn, 1) := by decide +kernel
theorem dX8_counter_13 : decode cX8_counter 13 = .ok (.iload_n 2, 1) := by decide +kernel
theorem dX8_counter_14 : decode cX8_counter 14 = .ok (.tableswitch 94 0 4 #[34, 44, 54, 73, 82], 34) := by decide +kernel
theorem dX8_counter_48 : decode cX8_counter 48 = .ok (.aload_n 0, 1) := by decide +kernel
theorem dX8_counter_49 : decode cX8_counter 49 = .ok (.getfield 26, 3) := by decide +kernel
theorem dX8_counter_52 : decode cX8_counter 52 = .ok (.getfield 126, 3) := by decide +kernel
theorem dX8_counter_55 : decode cX8_counter 55 = .ok (.iload_n 1, 1) := by decide +kernel
theorem dX8_counter_56 : decode cX8_counter 56 = .ok (.iaload, 1) := by decide +kernel
theorem dX8_counter_57 : decode cX8_counter 57 = .ok (.ireturn, 1) := by decide +kernel
theorem dX8_counter_58 : decode cX8_counter 58 = .ok (.aload_n 0, 1) := by decide +kernel
theorem dX8_counter_59 : decode cX8_counter 59 = .ok (.getfield 36, 3) := by decide +kernel
theorem dX8_counter_62 : decode cX8_counter 62 = .ok (.getfield 129, 3) := by decide +kernel
theorem dX8_counter_65 : decode cX8_counter 65 = .ok (.iload_n 1, 1) := by decide +kernel
theorem dX8_counter_66 : decode cX8_counter 66 = .ok (.iaload, 1) := by decide +kernel
theorem dX8_counter_67 : decode cX8_counter 67 = .ok (.ireturn, 1) := by decide +kernel
theorem dX8_counter_68 : decode cX8_counter 68 = .ok (.aload_n 0, 1) := by decide +kernel
theorem dX8_counter_69 : decode cX8_counter 69 = .ok (.getfield 36, 3) := by decide +kernel
theorem dX8_counter_72 : decode cX8_counter 72 = .ok (.iload_n 1, 1) := by decide +kernel
theorem dX8_counter_73 : decode cX8_counter 73 = .ok (.invokevirtual 132, 3) := by decide +kernel
theorem dX8_counter_76 : decode cX8_counter 76 = .ok (.aload_n 0, 1) := by decide +kernel
theorem dX8_counter_77 : decode cX8_counter 77 = .ok (.getfield 26, 3) := by decide +kernel
theorem dX8_counter_80 : decode cX8_counter 80 = .ok (.getfield 126, 3) := by decide +kernel
theorem dX8_counter_83 : decode cX8_counter 83 = .ok (.iload_n 1, 1) := by decide +kernel
theorem dX8_counter_84 : decode cX8_counter 84 = .ok (.iaload, 1) := by decide +kernel
theorem dX8_counter_85 : decode cX8_counter 85 = .ok (.imul, 1) := by decide +kernel
theorem dX8_counter_86 : decode cX8_counter 86 = .ok (.ireturn, 1) := by decide +kernel
theorem dX8_counter_87 : decode cX8_counter 87 = .ok (.aload_n 0, 1) := by decide +kernel
theorem dX8_counter_88 : decode cX8_counter 88 = .ok (.getfield 36, 3) := by decide +kernel
theorem dX8_counter_91 : decode cX8_counter 91 = .ok (.iload_n 1, 1) := by decide +kernel
theorem dX8_counter_92 : decode cX8_counter 92 = .ok (.invokevirtual 132, 3) := by decide +kernel
theorem dX8_counter_95 : decode cX8_counter 95 = .ok (.ireturn, 1) := by decide +kernel
theorem dX8_counter_96 : decode cX8_counter 96 = .ok (.aload_n 0, 1) := by decide +kernel
theorem dX8_counter_97 : decode cX8_counter 97 = .ok (.getfield 36, 3) := by decide +kernel
theorem dX8_counter_100 : decode cX8_counter 100 = .ok (.iload_n 1, 1) := by decide +kernel
theorem dX8_counter_101 : decode cX8_counter 101 = .ok (.invokevirtual 135, 3) := by decide +kernel
theorem dX8_counter_104 : decode cX8_counter 104 = .ok (.ldc 138, 2) := by decide +kernel
theorem dX8_counter_106 : decode cX8_counter 106 = .ok (.iadd, 1) := by decide +kernel
theorem dX8_counter_107 : decode cX8_counter 107 = .ok (.ireturn, 1) := by decide +kernel
theorem dX8_counter_108 : decode cX8_counter 108 = .ok (.bipush (-2), 2) := by decide +kernel
theorem dX8_counter_110 : decode cX8_counter 110 = .ok (.ireturn, 1) := by decide +kernel
theorem dX8_barred_0 : decode cX8_barred 0 = .ok (.aload_n 0, 1) := by decide +kernel
theorem dX8_barred_1 : decode cX8_barred 1 = .ok (.getfield 26, 3) := by decide +kernel
theorem dX8_barred_4 : decode cX8_barred 4 = .ok (.iload_n 1, 1) := by decide +kernel
theorem dX8_barred_5 : decode cX8_barred 5 = .ok (.invokevirtual 99, 3) := by decide +kernel
theorem dX8_barred_8 : decode cX8_barred 8 = .ok (.ifCond .eq 14, 3) := by decide +kernel
theorem dX8_barred_11 : decode cX8_barred 11 = .ok (.aload_n 0, 1) := by decide +kernel
theorem dX8_barred_12 : decode cX8_barred 12 = .ok (.getfield 26, 3) := by decide +kernel
theorem dX8_barred_15 : decode cX8_barred 15 = .ok (.iload_n 2, 1) := by decide +kernel
theorem dX8_barred_16 : decode cX8_barred 16 = .ok (.invokevirtual 123, 3) := by decide +kernel
theorem dX8_barred_19 : decode cX8_barred 19 = .ok (.ifCond .ne 5, 3) := by decide +kernel
theorem dX8_barred_22 : decode cX8_barred 22 = .ok (.iconst (-1), 1) := by decide +kernel
theorem dX8_barred_23 : decode cX8_barred 23 = .ok (.ireturn, 1) := by decide +kernel
theorem dX8_barred_24 : decode cX8_barred 24 = .ok (.aload_n 0, 1) := by decide +kernel
theorem dX8_barred_25 : decode cX8_barred 25 = .ok (.getfield 26, 3) := by decide +kernel
theorem dX8_barred_28 : decode cX8_barred 28 = .ok (.iload_n 1, 1) := by decide +kernel
theorem dX8_barred_29 : decode cX8_barred 29 = .ok (.iload_n 2, 1) := by decide +kernel
theorem dX8_barred_30 : decode cX8_barred 30 = .ok (.invokevirtual 139, 3) := by decide +kernel
theorem dX8_barred_33 : decode cX8_barred 33 = .ok (.ifCond .eq 7, 3) := by decide +kernel
theorem dX8_barred_36 : decode cX8_barred 36 = .ok (.iconst 1, 1) := by decide +kernel
theorem dX8_barred_37 : decode cX8_barred 37 = .ok (.goto 4, 3) := by decide +kernel
theorem dX8_barred_40 : decode cX8_barred 40 = .ok (.iconst 0, 1) := by decide +kernel
theorem dX8_barred_41 : decode cX8_barred 41 = .ok (.ireturn, 1) := by decide +kernel
theorem dX8_plaster_0 : decode cX8_plaster 0 = .ok (.aload_n 0, 1) := by decide +kernel
theorem dX8_plaster_1 : decode cX8_plaster 1 = .ok (.getfield 26, 3) := by decide +kernel
theorem dX8_plaster_4 : decode cX8_plaster 4 = .ok (.iload_n 1, 1) := by decide +kernel
theorem dX8_plaster_5 : decode cX8_plaster 5 = .ok (.invokevirtual 99, 3) := by decide +kernel
theorem dX8_plaster_8 : decode cX8_plaster 8 = .ok (.ifCond .ne 5, 3) := by decide +kernel
theorem dX8_plaster_11 : decode cX8_plaster 11 = .ok (.iconst (-1), 1) := by decide +kernel
theorem dX8_plaster_12 : decode cX8_plaster 12 = .ok (.ireturn, 1) := by decide +kernel
theorem dX8_plaster_13 : decode cX8_plaster 13 = .ok (.iload_n 2, 1) := by decide +kernel
theorem dX8_plaster_14 : decode cX8_plaster 14 = .ok (.iconst 1, 1) := by decide +kernel
theorem dX8_plaster_15 : decode cX8_plaster 15 = .ok (.bipush 99, 2) := by decide +kernel
theorem dX8_plaster_17 : decode cX8_plaster 17 = .ok (.invokestatic 72, 3) := by decide +kernel
theorem dX8_plaster_20 : decode cX8_plaster 20 = .ok (.ifCond .ne 6, 3) := by decide +kernel
theorem dX8_plaster_23 : decode cX8_plaster 23 = .ok (.bipush (-2), 2) := by decide +kernel
theorem dX8_plaster_25 : decode cX8_plaster 25 = .ok (.ireturn, 1) := by decide +kernel
theorem dX8_plaster_26 : decode cX8_plaster 26 = .ok (.aload_n 0, 1) := by decide +kernel
theorem dX8_plaster_27 : decode cX8_plaster 27 = .ok (.getfield 36, 3) := by decide +kernel
theorem dX8_plaster_30 : decode cX8_plaster 30 = .ok (.getfield 103, 3) := by decide +kernel
theorem dX8_plaster_33 : decode cX8_plaster 33 = .ok (.iload_n 1, 1) := by decide +kernel
theorem dX8_plaster_34 : decode cX8_plaster 34 = .ok (.iaload, 1) := by decide +kernel
theorem dX8_plaster_35 : decode cX8_plaster 35 = .ok (.istore_n 3, 1) := by decide +kernel
theorem dX8_plaster_36 : decode cX8_plaster 36 = .ok (.aload_n 0, 1) := by decide +kernel
theorem dX8_plaster_37 : decode cX8_plaster 37 = .ok (.getfield 36, 3) := by decide +kernel
theorem dX8_plaster_40 : decode cX8_plaster 40 = .ok (.getfield 103, 3) := by decide +kernel
theorem dX8_plaster_43 : decode cX8_plaster 43 = .ok (.iload_n 1, 1) := by decide +kernel
theorem dX8_plaster_44 : decode cX8_plaster 44 = .ok (.iload_n 2, 1) := by decide +kernel
theorem dX8_plaster_45 : decode cX8_plaster 45 = .ok (.iastore, 1) := by decide +kernel
theorem dX8_plaster_46 : decode cX8_plaster 46 = .ok (.iload_n 3, 1) := by decide +kernel
theorem dX8_plaster_47 : decode cX8_plaster 47 = .ok (.ireturn, 1) := by decide +kernel
theorem dX8_common_0 : decode cX8_common 0 = .ok (.iload_n 1, 1) := by decide +kernel
theorem dX8_common_1 : decode cX8_common 1 = .ok (.iconst 1, 1) := by decide +kernel
theorem dX8_common_2 : decode cX8_common 2 = .ok (.bipush 99, 2) := by decide +kernel
theorem dX8_common_4 : decode cX8_common 4 = .ok (.invokestatic 72, 3) := by decide +kernel
theorem dX8_common_7 : decode cX8_common 7 = .ok (.ifCond .ne 6, 3) := by decide +kernel
theorem dX8_common_10 : decode cX8_common 10 = .ok (.bipush (-2), 2) := by decide +kernel
theorem dX8_common_12 : decode cX8_common 12 = .ok (.ireturn, 1) := by decide +kernel
theorem dX8_common_13 : decode cX8_common 13 = .ok (.aload_n 0, 1) := by decide +kernel
theorem dX8_common_14 : decode cX8_common 14 = .ok (.getfield 36, 3) := by decide +kernel
theorem dX8_common_17 : decode cX8_common 17 = .ok (.getfield 143, 3) := by decide +kernel
theorem dX8_common_20 : decode cX8_common 20 = .ok (.istore_n 2, 1) := by decide +kernel
theorem dX8_common_21 : decode cX8_common 21 = .ok (.aload_n 0, 1) := by decide +kernel
theorem dX8_common_22 : decode cX8_common 22 = .ok (.getfield 36, 3) := by decide +kernel
theorem dX8_common_25 : decode cX8_common 25 = .ok (.iload_n 1, 1) := by decide +kernel
theorem dX8_common_26 : decode cX8_common 26 = .ok (.putfield 143, 3) := by decide +kernel
theorem dX8_common_29 : decode cX8_common 29 = .ok (.iload_n 2, 1) := by decide +kernel
theorem dX8_common_30 : decode cX8_common 30 = .ok (.ireturn, 1) := by decide +kernel
theorem dX8_buy_0 : decode cX8_buy 0 = .ok (.aload_n 0, 1) := by decide +kernel
theorem dX8_buy_1 : decode cX8_buy 1 = .ok (.getfield 26, 3) := by decide +kernel
theorem dX8_buy_4 : decode cX8_buy 4 = .ok (.iload_n 1, 1) := by decide +kernel
theorem dX8_buy_5 : decode cX8_buy 5 = .ok (.invokevirtual 99, 3) := by decide +kernel
theorem dX8_buy_8 : decode cX8_buy 8 = .ok (.ifCond .eq 14, 3) := by decide +kernel
theorem dX8_buy_11 : decode cX8_buy 11 = .ok (.aload_n 0, 1) := by decide +kernel
theorem dX8_buy_12 : decode cX8_buy 12 = .ok (.getfield 26, 3) := by decide +kernel
theorem dX8_buy_15 : decode cX8_buy 15 = .ok (.iload_n 2, 1) := by decide +kernel
theorem dX8_buy_16 : decode cX8_buy 16 = .ok (.invokevirtual 123, 3) := by decide +kernel
theorem dX8_buy_19 : decode cX8_buy 19 = .ok (.ifCond .ne 5, 3) := by decide +kernel
theorem dX8_buy_22 : decode cX8_buy 22 = .ok (.iconst (-1), 1) := by decide +kernel
theorem dX8_buy_23 : decode cX8_buy 23 = .ok (.ireturn, 1) := by decide +kernel
theorem dX8_buy_24 : decode cX8_buy 24 = .ok (.iload_n 3, 1) := by decide +kernel
theorem dX8_buy_25 : decode cX8_buy 25 = .ok (.iconst 1, 1) := by decide +kernel
theorem dX8_buy_26 : decode cX8_buy 26 = .ok (.bipush 99, 2) := by decide +kernel
theorem dX8_buy_28 : decode cX8_buy 28 = .ok (.invokestatic 72, 3) := by decide +kernel
theorem dX8_buy_31 : decode cX8_buy 31 = .ok (.ifCond .ne 6, 3) := by decide +kernel
theorem dX8_buy_34 : decode cX8_buy 34 = .ok (.bipush (-2), 2) := by decide +kernel
theorem dX8_buy_36 : decode cX8_buy 36 = .ok (.ireturn, 1) := by decide +kernel
theorem dX8_buy_37 : decode cX8_buy 37 = .ok (.iload_n 3, 1) := by decide +kernel
theorem dX8_buy_38 : decode cX8_buy 38 = .ok (.aload_n 0, 1) := by decide +kernel
theorem dX8_buy_39 : decode cX8_buy 39 = .ok (.getfield 36, 3) := by decide +kernel
theorem dX8_buy_42 : decode cX8_buy 42 = .ok (.getfield 103, 3) := by decide +kernel
theorem dX8_buy_45 : decode cX8_buy 45 = .ok (.iload_n 1, 1) := by decide +kernel
theorem dX8_buy_46 : decode cX8_buy 46 = .ok (.iaload, 1) := by decide +kernel
theorem dX8_buy_47 : decode cX8_buy 47 = .ok (.imul, 1) := by decide +kernel
theorem dX8_buy_48 : decode cX8_buy 48 = .ok (.istore 4, 2) := by decide +kernel
theorem dX8_buy_50 : decode cX8_buy 50 = .ok (.aload_n 0, 1) := by decide +kernel
theorem dX8_buy_51 : decode cX8_buy 51 = .ok (.getfield 26, 3) := by decide +kernel
theorem dX8_buy_54 : decode cX8_buy 54 = .ok (.iload_n 1, 1) := by decide +kernel
theorem dX8_buy_55 : decode cX8_buy 55 = .ok (.iload_n 2, 1) := by decide +kernel
theorem dX8_buy_56 : decode cX8_buy 56 = .ok (.invokevirtual 139, 3) := by decide +kernel
theorem dX8_buy_59 : decode cX8_buy 59 = .ok (.ifCond .ne 17, 3) := by decide +kernel
theorem dX8_buy_62 : decode cX8_buy 62 = .ok (.iload 4, 2) := by decide +kernel
theorem dX8_buy_64 : decode cX8_buy 64 = .ok (.aload_n 0, 1) := by decide +kernel
theorem dX8_buy_65 : decode cX8_buy 65 = .ok (.getfield 36, 3) := by decide +kernel
theorem dX8_buy_68 : decode cX8_buy 68 = .ok (.getfield 129, 3) := by decide +kernel
theorem dX8_buy_71 : decode cX8_buy 71 = .ok (.iload_n 2, 1) := by decide +kernel
theorem dX8_buy_72 : decode cX8_buy 72 = .ok (.iaload, 1) := by decide +kernel
theorem dX8_buy_73 : decode cX8_buy 73 = .ok (.if_icmp .le 6, 3) := by decide +kernel
theorem dX8_buy_76 : decode cX8_buy 76 = .ok (.bipush (-3), 2) := by decide +kernel
theorem dX8_buy_78 : decode cX8_buy 78 = .ok (.ireturn, 1) := by decide +kernel
theorem dX8_buy_79 : decode cX8_buy 79 = .ok (.aload_n 0, 1) := by decide +kernel
theorem dX8_buy_80 : decode cX8_buy 80 = .ok (.getfield 36, 3) := by decide +kernel
theorem dX8_buy_83 : decode cX8_buy 83 = .ok (.getfield 146, 3) := by decide +kernel
theorem dX8_buy_86 : decode cX8_buy 86 = .ok (.bipush 12, 2) := by decide +kernel
theorem dX8_buy_88 : decode cX8_buy 88 = .ok (.if_icmp .lt 6, 3) := by decide +kernel
theorem dX8_buy_91 : decode cX8_buy 91 = .ok (.bipush (-4), 2) := by decide +kernel
theorem dX8_buy_93 : decode cX8_buy 93 = .ok (.ireturn, 1) := by decide +kernel
theorem dX8_buy_94 : decode cX8_buy 94 = .ok (.aload_n 0, 1) := by decide +kernel
theorem dX8_buy_95 : decode cX8_buy 95 = .ok (.getfield 36, 3) := by decide +kernel
theorem dX8_buy_98 : decode cX8_buy 98 = .ok (.iload_n 1, 1) := by decide +kernel
theorem dX8_buy_99 : decode cX8_buy 99 = .ok (.iload_n 2, 1) := by decide +kernel
theorem dX8_buy_100 : decode cX8_buy 100 = .ok (.iload_n 3, 1) := by decide +kernel
theorem dX8_buy_101 : decode cX8_buy 101 = .ok (.invokevirtual 149, 3) := by decide +kernel
theorem dX8_buy_104 : decode cX8_buy 104 = .ok (.iload 4, 2) := by decide +kernel
theorem dX8_buy_106 : decode cX8_buy 106 = .ok (.ireturn, 1) := by decide +kernel
theorem dX8_undo_0 : decode cX8_undo 0 = .ok (.aload_n 0, 1) := by decide +kernel
theorem dX8_undo_1 : decode cX8_undo 1 = .ok (.getfield 36, 3) := by decide +kernel
theorem dX8_undo_4 : decode cX8_undo 4 = .ok (.getfield 146, 3) := by decide +kernel
theorem dX8_undo_7 : decode cX8_undo 7 = .ok (.ifCond .gt 6, 3) := by decide +kernel
theorem dX8_undo_10 : decode cX8_undo 10 = .ok (.bipush (-3), 2) := by decide +kernel
theorem dX8_undo_12 : decode cX8_undo 12 = .ok (.ireturn, 1) := by decide +kernel
theorem dX8_undo_13 : decode cX8_undo 13 = .ok (.aload_n 0, 1) := by decide +kernel
theorem dX8_undo_14 : decode cX8_undo 14 = .ok (.getfield 36, 3) := by decide +kernel
theorem dX8_undo_17 : decode cX8_undo 17 = .ok (.invokevirtual 153, 3) := by decide +kernel
theorem dX8_undo_20 : decode cX8_undo 20 = .ok (.aload_n 0, 1) := by decide +kernel
theorem dX8_undo_21 : decode cX8_undo 21 = .ok (.getfield 36, 3) := by decide +kernel
theorem dX8_undo_24 : decode cX8_undo 24 = .ok (.getfield 146, 3) := by decide +kernel
theorem dX8_undo_27 : decode cX8_undo 27 = .ok (.ireturn, 1) := by decide +kernel
theorem dX8_sale_0 : decode cX8_sale 0 = .ok (.iload_n 2, 1) := by decide +kernel
theorem dX8_sale_1 : decode cX8_sale 1 = .ok (.iconst 0, 1) := by decide +kernel
theorem dX8_sale_2 : decode cX8_sale 2 = .ok (.iconst 3, 1) := by decide +kernel
theorem dX8_sale_3 : decode cX8_sale 3 = .ok (.invokestatic 72, 3) := by decide +kernel
theorem dX8_sale_6 : decode cX8_sale 6 = .ok (.ifCond .ne 6, 3) := by decide +kernel
theorem dX8_sale_9 : decode cX8_sale 9 = .ok (.bipush (-2), 2) := by decide +kernel
theorem dX8_sale_11 : decode cX8_sale 11 = .ok (.ireturn, 1) := by decide +kernel
theorem dX8_sale_12 : decode cX8_sale 12 = .ok (.iload_n 1, 1) := by decide +kernel
theorem dX8_sale_13 : decode cX8_sale 13 = .ok (.ifCond .lt 14, 3) := by decide +kernel
theorem dX8_sale_16 : decode cX8_sale 16 = .ok (.iload_n 1, 1) := by decide +kernel
theorem dX8_sale_17 : decode cX8_sale 17 = .ok (.aload_n 0, 1) := by decide +kernel
theorem dX8_sale_18 : decode cX8_sale 18 = .ok (.getfield 36, 3) := by decide +kernel
theorem dX8_sale_21 : decode cX8_sale 21 = .ok (.getfield 146, 3) := by decide +kernel
theorem dX8_sale_24 : decode cX8_sale 24 = .ok (.if_icmp .lt 6, 3) := by decide +kernel
theorem dX8_sale_27 : decode cX8_sale 27 = .ok (.bipush (-9), 2) := by decide +kernel
theorem dX8_sale_29 : decode cX8_sale 29 = .ok (.ireturn, 1) := by decide +kernel
theorem dX8_sale_30 : decode cX8_sale 30 = .ok (.iload_n 2, 1) := by decide +kernel
theorem dX8_sale_31 : decode cX8_sale 31 = .ok (.tableswitch 55 0 2 #[25, 35, 45], 25) := by decide +kernel
theorem dX8_sale_56 : decode cX8_sale 56 = .ok (.aload_n 0, 1) := by decide +kernel
theorem dX8_sale_57 : decode cX8_sale 57 = .ok (.getfield 36, 3) := by decide +kernel
theorem dX8_sale_60 : decode cX8_sale 60 = .ok (.getfield 156, 3) := by decide +kernel
theorem dX8_sale_63 : decode cX8_sale 63 = .ok (.iload_n 1, 1) := by decide +kernel
theorem dX8_sale_64 : decode cX8_sale 64 = .ok (.iaload, 1) := by decide +kernel
theorem dX8_sale_65 : decode cX8_sale 65 = .ok (.ireturn, 1) := by decide +kernel
theorem dX8_sale_66 : decode cX8_sale 66 = .ok (.aload_n 0, 1) := by decide +kernel
theorem dX8_sale_67 : decode cX8_sale 67 = .ok (.getfield 36, 3) := by decide +kernel
theorem dX8_sale_70 : decode cX8_sale 70 = .ok (.getfield 159, 3) := by decide +kernel
theorem dX8_sale_73 : decode cX8_sale 73 = .ok (.iload_n 1, 1) := by decide +kernel
theorem dX8_sale_74 : decode cX8_sale 74 = .ok (.iaload, 1) := by decide +kernel
theorem dX8_sale_75 : decode cX8_sale 75 = .ok (.ireturn, 1) := by decide +kernel
theorem dX8_sale_76 : decode cX8_sale 76 = .ok (.aload_n 0, 1) := by decide +kernel
theorem dX8_sale_77 : decode cX8_sale 77 = .ok (.getfield 36, 3) := by decide +kernel
theorem dX8_sale_80 : decode cX8_sale 80 = .ok (.getfield 162, 3) := by decide +kernel
theorem dX8_sale_83 : decode cX8_sale 83 = .ok (.iload_n 1, 1) := by decide +kernel
theorem dX8_sale_84 : decode cX8_sale 84 = .ok (.iaload, 1) := by decide +kernel
theorem dX8_sale_85 : decode cX8_sale 85 = .ok (.ireturn, 1) := by decide +kernel
theorem dX8_sale_86 : decode cX8_sale 86 = .ok (.aload_n 0, 1) := by decide +kernel
theorem dX8_sale_87 : decode cX8_sale 87 = .ok (.getfield 36, 3) := by decide +kernel
theorem dX8_sale_90 : decode cX8_sale 90 = .ok (.getfield 165, 3) := by decide +kernel
theorem dX8_sale_93 : decode cX8_sale 93 = .ok (.iload_n 1, 1) := by decide +kernel
theorem dX8_sale_94 : decode cX8_sale 94 = .ok (.iaload, 1) := by decide +kernel
theorem dX8_sale_95 : decode cX8_sale 95 = .ok (.ireturn, 1) := by decide +kernel
theorem dX8_truly_0 : decode cX8_truly 0 = .ok (.aload_n 0, 1) := by decide +kernel
theorem dX8_truly_1 : decode cX8_truly 1 = .ok (.getfield 26, 3) := by decide +kernel
theorem dX8_truly_4 : decode cX8_truly 4 = .ok (.iload_n 1, 1) := by decide +kernel
theorem dX8_truly_5 : decode cX8_truly 5 = .ok (.invokevirtual 99, 3) := by decide +kernel
theorem dX8_truly_8 : decode cX8_truly 8 = .ok (.ifCond .eq 14, 3) := by decide +kernel
theorem dX8_truly_11 : decode cX8_truly 11 = .ok (.aload_n 0, 1) := by decide +kernel
theorem dX8_truly_12 : decode cX8_truly 12 = .ok (.getfield 26, 3) := by decide +kernel
theorem dX8_truly_15 : decode cX8_truly 15 = .ok (.iload_n 2, 1) := by decide +kernel
theorem dX8_truly_16 : decode cX8_truly 16 = .ok (.invokevirtual 123, 3) := by decide +kernel
theorem dX8_truly_19 : decode cX8_truly 19 = .ok (.ifCond .ne 5, 3) := by decide +kernel
theorem dX8_truly_22 : decode cX8_truly 22 = .ok (.iconst (-1), 1) := by decide +kernel
theorem dX8_truly_23 : decode cX8_truly 23 = .ok (.ireturn, 1) := by decide +kernel
theorem dX8_truly_24 : decode cX8_truly 24 = .ok (.aload_n 0, 1) := by decide +kernel
theorem dX8_truly_25 : decode cX8_truly 25 = .ok (.getfield 26, 3) := by decide +kernel
theorem dX8_truly_28 : decode cX8_truly 28 = .ok (.getfield 126, 3) := by decide +kernel
theorem dX8_truly_31 : decode cX8_truly 31 = .ok (.iload_n 2, 1) := by decide +kernel
theorem dX8_truly_32 : decode cX8_truly 32 = .ok (.iaload, 1) := by decide +kernel
theorem dX8_truly_33 : decode cX8_truly 33 = .ok (.i2l, 1) := by decide +kernel
theorem dX8_truly_34 : decode cX8_truly 34 = .ok (.aload_n 0, 1) := by decide +kernel
theorem dX8_truly_35 : decode cX8_truly 35 = .ok (.getfield 36, 3) := by decide +kernel
theorem dX8_truly_38 : decode cX8_truly 38 = .ok (.getfield 103, 3) := by decide +kernel
theorem dX8_truly_41 : decode cX8_truly 41 = .ok (.iload_n 1, 1) := by decide +kernel
theorem dX8_truly_42 : decode cX8_truly 42 = .ok (.iaload, 1) := by decide +kernel
theorem dX8_truly_43 : decode cX8_truly 43 = .ok (.i2l, 1) := by decide +kernel
theorem dX8_truly_44 : decode cX8_truly 44 = .ok (.iload_n 3, 1) := by decide +kernel
theorem dX8_truly_45 : decode cX8_truly 45 = .ok (.invokestatic 168, 3) := by decide +kernel
theorem dX8_truly_48 : decode cX8_truly 48 = .ok (.l2i, 1) := by decide +kernel
theorem dX8_truly_49 : decode cX8_truly 49 = .ok (.ireturn, 1) := by decide +kernel
theorem dX8_cheapest_0 : decode cX8_cheapest 0 = .ok (.aload_n 0, 1) := by decide +kernel
theorem dX8_cheapest_1 : decode cX8_cheapest 1 = .ok (.getfield 26, 3) := by decide +kernel
theorem dX8_cheapest_4 : decode cX8_cheapest 4 = .ok (.iload_n 1, 1) := by decide +kernel
theorem dX8_cheapest_5 : decode cX8_cheapest 5 = .ok (.invokevirtual 123, 3) := by decide +kernel
theorem dX8_cheapest_8 : decode cX8_cheapest 8 = .ok (.ifCond .ne 5, 3) := by decide +kernel
theorem dX8_cheapest_11 : decode cX8_cheapest 11 = .ok (.iconst (-1), 1) := by decide +kernel
theorem dX8_cheapest_12 : decode cX8_cheapest 12 = .ok (.ireturn, 1) := by decide +kernel
theorem dX8_cheapest_13 : decode cX8_cheapest 13 = .ok (.iload_n 2, 1) := by decide +kernel
theorem dX8_cheapest_14 : decode cX8_cheapest 14 = .ok (.iconst 1, 1) := by decide +kernel
theorem dX8_cheapest_15 : decode cX8_cheapest 15 = .ok (.sipush 999, 3) := by decide +kernel
theorem dX8_cheapest_18 : decode cX8_cheapest 18 = .ok (.invokestatic 72, 3) := by decide +kernel
theorem dX8_cheapest_21 : decode cX8_cheapest 21 = .ok (.ifCond .ne 6, 3) := by decide +kernel
theorem dX8_cheapest_24 : decode cX8_cheapest 24 = .ok (.bipush (-2), 2) := by decide +kernel
theorem dX8_cheapest_26 : decode cX8_cheapest 26 = .ok (.ireturn, 1) := by decide +kernel
theorem dX8_cheapest_27 : decode cX8_cheapest 27 = .ok (.aload_n 0, 1) := by decide +kernel
theorem dX8_cheapest_28 : decode cX8_cheapest 28 = .ok (.getfield 47, 3) := by decide +kernel
theorem dX8_cheapest_31 : decode cX8_cheapest 31 = .ok (.aload_n 0, 1) := by decide +kernel
theorem dX8_cheapest_32 : decode cX8_cheapest 32 = .ok (.getfield 26, 3) := by decide +kernel
theorem dX8_cheapest_35 : decode cX8_cheapest 35 = .ok (.aload_n 0, 1) := by decide +kernel
theorem dX8_cheapest_36 : decode cX8_cheapest 36 = .ok (.getfield 36, 3) := by decide +kernel
theorem dX8_cheapest_39 : decode cX8_cheapest 39 = .ok (.iload_n 1, 1) := by decide +kernel
theorem dX8_cheapest_40 : decode cX8_cheapest 40 = .ok (.iload_n 2, 1) := by decide +kernel
theorem dX8_cheapest_41 : decode cX8_cheapest 41 = .ok (.invokevirtual 172, 3) := by decide +kernel
theorem dX8_cheapest_44 : decode cX8_cheapest 44 = .ok (.ifCond .eq 13, 3) := by decide +kernel
theorem dX8_cheapest_47 : decode cX8_cheapest 47 = .ok (.aload_n 0, 1) := by decide +kernel
theorem dX8_cheapest_48 : decode cX8_cheapest 48 = .ok (.getfield 47, 3) := by decide +kernel
theorem dX8_cheapest_51 : decode cX8_cheapest 51 = .ok (.invokevirtual 176, 3) := by decide +kernel
theorem dX8_cheapest_54 : decode cX8_cheapest 54 = .ok (.goto 5, 3) := by decide +kernel
theorem dX8_cheapest_57 : decode cX8_cheapest 57 = .ok (.bipush (-9), 2) := by decide +kernel
theorem dX8_cheapest_59 : decode cX8_cheapest 59 = .ok (.ireturn, 1) := by decide +kernel
theorem dX8_cheapestBy_0 : decode cX8_cheapestBy 0 = .ok (.aload_n 0, 1) := by decide +kernel
theorem dX8_cheapestBy_1 : decode cX8_cheapestBy 1 = .ok (.getfield 26, 3) := by decide +kernel
theorem dX8_cheapestBy_4 : decode cX8_cheapestBy 4 = .ok (.iload_n 1, 1) := by decide +kernel
theorem dX8_cheapestBy_5 : decode cX8_cheapestBy 5 = .ok (.invokevirtual 123, 3) := by decide +kernel
theorem dX8_cheapestBy_8 : decode cX8_cheapestBy 8 = .ok (.ifCond .eq 14, 3) := by decide +kernel
theorem dX8_cheapestBy_11 : decode cX8_cheapestBy 11 = .ok (.aload_n 0, 1) := by decide +kernel
theorem dX8_cheapestBy_12 : decode cX8_cheapestBy 12 = .ok (.getfield 26, 3) := by decide +kernel
theorem dX8_cheapestBy_15 : decode cX8_cheapestBy 15 = .ok (.iload_n 3, 1) := by decide +kernel
theorem dX8_cheapestBy_16 : decode cX8_cheapestBy 16 = .ok (.invokevirtual 99, 3) := by decide +kernel
theorem dX8_cheapestBy_19 : decode cX8_cheapestBy 19 = .ok (.ifCond .ne 5, 3) := by decide +kernel
theorem dX8_cheapestBy_22 : decode cX8_cheapestBy 22 = .ok (.iconst (-1), 1) := by decide +kernel
theorem dX8_cheapestBy_23 : decode cX8_cheapestBy 23 = .ok (.ireturn, 1) := by decide +kernel
theorem dX8_cheapestBy_24 : decode cX8_cheapestBy 24 = .ok (.iload_n 2, 1) := by decide +kernel
theorem dX8_cheapestBy_25 : decode cX8_cheapestBy 25 = .ok (.iconst 1, 1) := by decide +kernel
theorem dX8_cheapestBy_26 : decode cX8_cheapestBy 26 = .ok (.sipush 999, 3) := by decide +kernel
theorem dX8_cheapestBy_29 : decode cX8_cheapestBy 29 = .ok (.invokestatic 72, 3) := by decide +kernel
theorem dX8_cheapestBy_32 : decode cX8_cheapestBy 32 = .ok (.ifCond .ne 6, 3) := by decide +kernel
theorem dX8_cheapestBy_35 : decode cX8_cheapestBy 35 = .ok (.bipush (-2), 2) := by decide +kernel
theorem dX8_cheapestBy_37 : decode cX8_cheapestBy 37 = .ok (.ireturn, 1) := by decide +kernel
theorem dX8_cheapestBy_38 : decode cX8_cheapestBy 38 = .ok (.aload_n 0, 1) := by decide +kernel
theorem dX8_cheapestBy_39 : decode cX8_cheapestBy 39 = .ok (.getfield 47, 3) := by decide +kernel
theorem dX8_cheapestBy_42 : decode cX8_cheapestBy 42 = .ok (.aload_n 0, 1) := by decide +kernel
theorem dX8_cheapestBy_43 : decode cX8_cheapestBy 43 = .ok (.getfield 26, 3) := by decide +kernel
theorem dX8_cheapestBy_46 : decode cX8_cheapestBy 46 = .ok (.aload_n 0, 1) := by decide +kernel
theorem dX8_cheapestBy_47 : decode cX8_cheapestBy 47 = .ok (.getfield 36, 3) := by decide +kernel
theorem dX8_cheapestBy_50 : decode cX8_cheapestBy 50 = .ok (.iload_n 1, 1) := by decide +kernel
theorem dX8_cheapestBy_51 : decode cX8_cheapestBy 51 = .ok (.iload_n 2, 1) := by decide +kernel
theorem dX8_cheapestBy_52 : decode cX8_cheapestBy 52 = .ok (.invokevirtual 172, 3) := by decide +kernel
theorem dX8_cheapestBy_55 : decode cX8_cheapestBy 55 = .ok (.ifCond .ne 6, 3) := by decide +kernel
theorem dX8_cheapestBy_58 : decode cX8_cheapestBy 58 = .ok (.bipush (-9), 2) := by decide +kernel
theorem dX8_cheapestBy_60 : decode cX8_cheapestBy 60 = .ok (.ireturn, 1) := by decide +kernel
theorem dX8_cheapestBy_61 : decode cX8_cheapestBy 61 = .ok (.aload_n 0, 1) := by decide +kernel
theorem dX8_cheapestBy_62 : decode cX8_cheapestBy 62 = .ok (.getfield 47, 3) := by decide +kernel
theorem dX8_cheapestBy_65 : decode cX8_cheapestBy 65 = .ok (.aload_n 0, 1) := by decide +kernel
theorem dX8_cheapestBy_66 : decode cX8_cheapestBy 66 = .ok (.getfield 26, 3) := by decide +kernel
theorem dX8_cheapestBy_69 : decode cX8_cheapestBy 69 = .ok (.aload_n 0, 1) := by decide +kernel
theorem dX8_cheapestBy_70 : decode cX8_cheapestBy 70 = .ok (.getfield 36, 3) := by decide +kernel
theorem dX8_cheapestBy_73 : decode cX8_cheapestBy 73 = .ok (.iload_n 1, 1) := by decide +kernel
theorem dX8_cheapestBy_74 : decode cX8_cheapestBy 74 = .ok (.iload_n 2, 1) := by decide +kernel
theorem dX8_cheapestBy_75 : decode cX8_cheapestBy 75 = .ok (.invokevirtual 180, 3) := by decide +kernel
theorem dX8_cheapestBy_78 : decode cX8_cheapestBy 78 = .ok (.aload_n 0, 1) := by decide +kernel
theorem dX8_cheapestBy_79 : decode cX8_cheapestBy 79 = .ok (.getfield 47, 3) := by decide +kernel
theorem dX8_cheapestBy_82 : decode cX8_cheapestBy 82 = .ok (.getfield 184, 3) := by decide +kernel
theorem dX8_cheapestBy_85 : decode cX8_cheapestBy 85 = .ok (.iload_n 3, 1) := by decide +kernel
theorem dX8_cheapestBy_86 : decode cX8_cheapestBy 86 = .ok (.iaload, 1) := by decide +kernel
theorem dX8_cheapestBy_87 : decode cX8_cheapestBy 87 = .ok (.ireturn, 1) := by decide +kernel
theorem dX8_exchange_0 : decode cX8_exchange 0 = .ok (.iload_n 1, 1) := by decide +kernel
theorem dX8_exchange_1 : decode cX8_exchange 1 = .ok (.iconst 0, 1) := by decide +kernel
theorem dX8_exchange_2 : decode cX8_exchange 2 = .ok (.iconst 2, 1) := by decide +kernel
theorem dX8_exchange_3 : decode cX8_exchange 3 = .ok (.invokestatic 72, 3) := by decide +kernel
theorem dX8_exchange_6 : decode cX8_exchange 6 = .ok (.ifCond .eq 12, 3) := by decide +kernel
theorem dX8_exchange_9 : decode cX8_exchange 9 = .ok (.iload_n 2, 1) := by decide +kernel
theorem dX8_exchange_10 : decode cX8_exchange 10 = .ok (.iconst 0, 1) := by decide +kernel
theorem dX8_exchange_11 : decode cX8_exchange 11 = .ok (.iconst 2, 1) := by decide +kernel
theorem dX8_exchange_12 : decode cX8_exchange 12 = .ok (.invokestatic 72, 3) := by decide +kernel
theorem dX8_exchange_15 : decode cX8_exchange 15 = .ok (.ifCond .ne 5, 3) := by decide +kernel
theorem dX8_exchange_18 : decode cX8_exchange 18 = .ok (.iconst (-1), 1) := by decide +kernel
theorem dX8_exchange_19 : decode cX8_exchange 19 = .ok (.ireturn, 1) := by decide +kernel
theorem dX8_exchange_20 : decode cX8_exchange 20 = .ok (.iload_n 1, 1) := by decide +kernel
theorem dX8_exchange_21 : decode cX8_exchange 21 = .ok (.iload_n 2, 1) := by decide +kernel
theorem dX8_exchange_22 : decode cX8_exchange 22 = .ok (.if_icmp .eq 35, 3) := by decide +kernel
theorem dX8_exchange_25 : decode cX8_exchange 25 = .ok (.iload_n 3, 1) := by decide +kernel
theorem dX8_exchange_26 : decode cX8_exchange 26 = .ok (.iconst 1, 1) := by decide +kernel
theorem dX8_exchange_27 : decode cX8_exchange 27 = .ok (.bipush 9, 2) := by decide +kernel
theorem dX8_exchange_29 : decode cX8_exchange 29 = .ok (.invokestatic 72, 3) := by decide +kernel
theorem dX8_exchange_32 : decode cX8_exchange 32 = .ok (.ifCond .eq 25, 3) := by decide +kernel
theorem dX8_exchange_35 : decode cX8_exchange 35 = .ok (.iload 4, 2) := by decide +kernel
theorem dX8_exchange_37 : decode cX8_exchange 37 = .ok (.iconst 1, 1) := by decide +kernel
theorem dX8_exchange_38 : decode cX8_exchange 38 = .ok (.bipush 9, 2) := by decide +kernel
theorem dX8_exchange_40 : decode cX8_exchange 40 = .ok (.invokestatic 72, 3) := by decide +kernel
theorem dX8_exchange_43 : decode cX8_exchange 43 = .ok (.ifCond .eq 14, 3) := by decide +kernel
theorem dX8_exchange_46 : decode cX8_exchange 46 = .ok (.iload 5, 2) := by decide +kernel
theorem dX8_exchange_48 : decode cX8_exchange 48 = .ok (.iconst 1, 1) := by decide +kernel
theorem dX8_exchange_49 : decode cX8_exchange 49 = .ok (.bipush 99, 2) := by decide +kernel
theorem dX8_exchange_51 : decode cX8_exchange 51 = .ok (.invokestatic 72, 3) := by decide +kernel
theorem dX8_exchange_54 : decode cX8_exchange 54 = .ok (.ifCond .ne 6, 3) := by decide +kernel
theorem dX8_exchange_57 : decode cX8_exchange 57 = .ok (.bipush (-2), 2) := by decide +kernel
theorem dX8_exchange_59 : decode cX8_exchange 59 = .ok (.ireturn, 1) := by decide +kernel
theorem dX8_exchange_60 : decode cX8_exchange 60 = .ok (.aload_n 0, 1) := by decide +kernel
theorem dX8_exchange_61 : decode cX8_exchange 61 = .ok (.getfield 54, 3) := by decide +kernel
theorem dX8_exchange_64 : decode cX8_exchange 64 = .ok (.getfield 185, 3) := by decide +kernel
theorem dX8_exchange_67 : decode cX8_exchange 67 = .ok (.bipush 8, 2) := by decide +kernel
theorem dX8_exchange_69 : decode cX8_exchange 69 = .ok (.if_icmp .lt 6, 3) := by decide +kernel
theorem dX8_exchange_72 : decode cX8_exchange 72 = .ok (.bipush (-4), 2) := by decide +kernel
theorem dX8_exchange_74 : decode cX8_exchange 74 = .ok (.ireturn, 1) := by decide +kernel
theorem dX8_exchange_75 : decode cX8_exchange 75 = .ok (.aload_n 0, 1) := by decide +kernel
theorem dX8_exchange_76 : decode cX8_exchange 76 = .ok (.getfield 54, 3) := by decide +kernel
theorem dX8_exchange_79 : decode cX8_exchange 79 = .ok (.iload_n 1, 1) := by decide +kernel
theorem dX8_exchange_80 : decode cX8_exchange 80 = .ok (.iload_n 2, 1) := by decide +kernel
theorem dX8_exchange_81 : decode cX8_exchange 81 = .ok (.iload_n 3, 1) := by decide +kernel
theorem dX8_exchange_82 : decode cX8_exchange 82 = .ok (.iload 4, 2) := by decide +kernel
theorem dX8_exchange_84 : decode cX8_exchange 84 = .ok (.iload 5, 2) := by decide +kernel
theorem dX8_exchange_86 : decode cX8_exchange 86 = .ok (.invokevirtual 188, 3) := by decide +kernel
theorem dX8_exchange_89 : decode cX8_exchange 89 = .ok (.aload_n 0, 1) := by decide +kernel
theorem dX8_exchange_90 : decode cX8_exchange 90 = .ok (.getfield 54, 3) := by decide +kernel
theorem dX8_exchange_93 : decode cX8_exchange 93 = .ok (.getfield 185, 3) := by decide +kernel
theorem dX8_exchange_96 : decode cX8_exchange 96 = .ok (.ireturn, 1) := by decide +kernel
theorem dX8_unchange_0 : decode cX8_unchange 0 = .ok (.aload_n 0, 1) := by decide +kernel
theorem dX8_unchange_1 : decode cX8_unchange 1 = .ok (.getfield 54, 3) := by decide +kernel
theorem dX8_unchange_4 : decode cX8_unchange 4 = .ok (.getfield 185, 3) := by decide +kernel
theorem dX8_unchange_7 : decode cX8_unchange 7 = .ok (.istore_n 1, 1) := by decide +kernel
theorem dX8_unchange_8 : decode cX8_unchange 8 = .ok (.aload_n 0, 1) := by decide +kernel
theorem dX8_unchange_9 : decode cX8_unchange 9 = .ok (.getfield 54, 3) := by decide +kernel
theorem dX8_unchange_12 : decode cX8_unchange 12 = .ok (.iconst 0, 1) := by decide +kernel
theorem dX8_unchange_13 : decode cX8_unchange 13 = .ok (.putfield 185, 3) := by decide +kernel
theorem dX8_unchange_16 : decode cX8_unchange 16 = .ok (.iload_n 1, 1) := by decide +kernel
theorem dX8_unchange_17 : decode cX8_unchange 17 = .ok (.ireturn, 1) := by decide +kernel
theorem dX8_ring_0 : decode cX8_ring 0 = .ok (.aload_n 0, 1) := by decide +kernel
theorem dX8_ring_1 : decode cX8_ring 1 = .ok (.getfield 26, 3) := by decide +kernel
theorem dX8_ring_4 : decode cX8_ring 4 = .ok (.iload_n 1, 1) := by decide +kernel
theorem dX8_ring_5 : decode cX8_ring 5 = .ok (.invokevirtual 99, 3) := by decide +kernel
theorem dX8_ring_8 : decode cX8_ring 8 = .ok (.ifCond .ne 7, 3) := by decide +kernel
theorem dX8_ring_11 : decode cX8_ring 11 = .ok (.ldc2_w 192, 3) := by decide +kernel
theorem dX8_ring_14 : decode cX8_ring 14 = .ok (.lreturn, 1) := by decide +kernel
theorem dX8_ring_15 : decode cX8_ring 15 = .ok (.aload_n 0, 1) := by decide +kernel
theorem dX8_ring_16 : decode cX8_ring 16 = .ok (.getfield 54, 3) := by decide +kernel
theorem dX8_ring_19 : decode cX8_ring 19 = .ok (.aload_n 0, 1) := by decide +kernel
theorem dX8_ring_20 : decode cX8_ring 20 = .ok (.getfield 36, 3) := by decide +kernel
theorem dX8_ring_23 : decode cX8_ring 23 = .ok (.getfield 103, 3) := by decide +kernel
theorem dX8_ring_26 : decode cX8_ring 26 = .ok (.iload_n 1, 1) := by decide +kernel
theorem dX8_ring_27 : decode cX8_ring 27 = .ok (.iaload, 1) := by decide +kernel
theorem dX8_ring_28 : decode cX8_ring 28 = .ok (.invokevirtual 194, 3) := by decide +kernel
theorem dX8_ring_31 : decode cX8_ring 31 = .ok (.aload_n 0, 1) := by decide +kernel
theorem dX8_ring_32 : decode cX8_ring 32 = .ok (.getfield 54, 3) := by decide +kernel
theorem dX8_ring_35 : decode cX8_ring 35 = .ok (.getfield 198, 3) := by decide +kernel
theorem dX8_ring_38 : decode cX8_ring 38 = .ok (.ifCond .ne 7, 3) := by decide +kernel
theorem dX8_ring_41 : decode cX8_ring 41 = .ok (.ldc2_w 201, 3) := by decide +kernel
theorem dX8_ring_44 : decode cX8_ring 44 = .ok (.lreturn, 1) := by decide +kernel
theorem dX8_ring_45 : decode cX8_ring 45 = .ok (.aload_n 0, 1) := by decide +kernel
theorem dX8_ring_46 : decode cX8_ring 46 = .ok (.getfield 54, 3) := by decide +kernel
theorem dX8_ring_49 : decode cX8_ring 49 = .ok (.getfield 203, 3) := by decide +kernel
theorem dX8_ring_52 : decode cX8_ring 52 = .ok (.aload_n 0, 1) := by decide +kernel
theorem dX8_ring_53 : decode cX8_ring 53 = .ok (.getfield 54, 3) := by decide +kernel
theorem dX8_ring_56 : decode cX8_ring 56 = .ok (.getfield 207, 3) := by decide +kernel
theorem dX8_ring_59 : decode cX8_ring 59 = .ok (.iload_n 2, 1) := by decide +kernel
theorem dX8_ring_60 : decode cX8_ring 60 = .ok (.invokestatic 168, 3) := by decide +kernel
theorem dX8_ring_63 : decode cX8_ring 63 = .ok (.lreturn, 1) := by decide +kernel
theorem dX8_ringAt_0 : decode cX8_ringAt 0 = .ok (.aload_n 0, 1) := by decide +kernel
theorem dX8_ringAt_1 : decode cX8_ringAt 1 = .ok (.getfield 26, 3) := by decide +kernel
theorem dX8_ringAt_4 : decode cX8_ringAt 4 = .ok (.iload_n 1, 1) := by decide +kernel
theorem dX8_ringAt_5 : decode cX8_ringAt 5 = .ok (.invokevirtual 99, 3) := by decide +kernel
theorem dX8_ringAt_8 : decode cX8_ringAt 8 = .ok (.ifCond .ne 5, 3) := by decide +kernel
theorem dX8_ringAt_11 : decode cX8_ringAt 11 = .ok (.iconst (-1), 1) := by decide +kernel
theorem dX8_ringAt_12 : decode cX8_ringAt 12 = .ok (.ireturn, 1) := by decide +kernel
theorem dX8_ringAt_13 : decode cX8_ringAt 13 = .ok (.aload_n 0, 1) := by decide +kernel
theorem dX8_ringAt_14 : decode cX8_ringAt 14 = .ok (.getfield 54, 3) := by decide +kernel
theorem dX8_ringAt_17 : decode cX8_ringAt 17 = .ok (.aload_n 0, 1) := by decide +kernel
theorem dX8_ringAt_18 : decode cX8_ringAt 18 = .ok (.getfield 36, 3) := by decide +kernel
theorem dX8_ringAt_21 : decode cX8_ringAt 21 = .ok (.getfield 103, 3) := by decide +kernel
theorem dX8_ringAt_24 : decode cX8_ringAt 24 = .ok (.iload_n 1, 1) := by decide +kernel
theorem dX8_ringAt_25 : decode cX8_ringAt 25 = .ok (.iaload, 1) := by decide +kernel
theorem dX8_ringAt_26 : decode cX8_ringAt 26 = .ok (.invokevirtual 194, 3) := by decide +kernel
theorem dX8_ringAt_29 : decode cX8_ringAt 29 = .ok (.iload_n 2, 1) := by decide +kernel
theorem dX8_ringAt_30 : decode cX8_ringAt 30 = .ok (.ifCond .lt 26, 3) := by decide +kernel
theorem dX8_ringAt_33 : decode cX8_ringAt 33 = .ok (.iload_n 2, 1) := by decide +kernel
theorem dX8_ringAt_34 : decode cX8_ringAt 34 = .ok (.aload_n 0, 1) := by decide +kernel
theorem dX8_ringAt_35 : decode cX8_ringAt 35 = .ok (.getfield 54, 3) := by decide +kernel
theorem dX8_ringAt_38 : decode cX8_ringAt 38 = .ok (.getfield 198, 3) := by decide +kernel
theorem dX8_ringAt_41 : decode cX8_ringAt 41 = .ok (.if_icmp .ge 15, 3) := by decide +kernel
theorem dX8_ringAt_44 : decode cX8_ringAt 44 = .ok (.aload_n 0, 1) := by decide +kernel
theorem dX8_ringAt_45 : decode cX8_ringAt 45 = .ok (.getfield 54, 3) := by decide +kernel
theorem dX8_ringAt_48 : decode cX8_ringAt 48 = .ok (.getfield 210, 3) := by decide +kernel
theorem dX8_ringAt_51 : decode cX8_ringAt 51 = .ok (.iload_n 2, 1) := by decide +kernel
theorem dX8_ringAt_52 : decode cX8_ringAt 52 = .ok (.iaload, 1) := by decide +kernel
theorem dX8_ringAt_53 : decode cX8_ringAt 53 = .ok (.goto 5, 3) := by decide +kernel
theorem dX8_ringAt_56 : decode cX8_ringAt 56 = .ok (.bipush (-9), 2) := by decide +kernel
theorem dX8_ringAt_58 : decode cX8_ringAt 58 = .ok (.ireturn, 1) := by decide +kernel
theorem dX8_come_0 : decode cX8_come 0 = .ok (.aload_n 0, 1) := by decide +kernel
theorem dX8_come_1 : decode cX8_come 1 = .ok (.getfield 26, 3) := by decide +kernel
theorem dX8_come_4 : decode cX8_come 4 = .ok (.iload_n 1, 1) := by decide +kernel
theorem dX8_come_5 : decode cX8_come 5 = .ok (.invokevirtual 99, 3) := by decide +kernel
theorem dX8_come_8 : decode cX8_come 8 = .ok (.ifCond .ne 5, 3) := by decide +kernel
theorem dX8_come_11 : decode cX8_come 11 = .ok (.iconst (-1), 1) := by decide +kernel
theorem dX8_come_12 : decode cX8_come 12 = .ok (.ireturn, 1) := by decide +kernel
theorem dX8_come_13 : decode cX8_come 13 = .ok (.iload_n 2, 1) := by decide +kernel
theorem dX8_come_14 : decode cX8_come 14 = .ok (.iconst 0, 1) := by decide +kernel
theorem dX8_come_15 : decode cX8_come 15 = .ok (.bipush 9, 2) := by decide +kernel
theorem dX8_come_17 : decode cX8_come 17 = .ok (.invokestatic 72, 3) := by decide +kernel
theorem dX8_come_20 : decode cX8_come 20 = .ok (.ifCond .ne 6, 3) := by decide +kernel
theorem dX8_come_23 : decode cX8_come 23 = .ok (.bipush (-2), 2) := by decide +kernel
theorem dX8_come_25 : decode cX8_come 25 = .ok (.ireturn, 1) := by decide +kernel
theorem dX8_come_26 : decode cX8_come 26 = .ok (.aload_n 0, 1) := by decide +kernel
theorem dX8_come_27 : decode cX8_come 27 = .ok (.getfield 26, 3) := by decide +kernel
theorem dX8_come_30 : decode cX8_come 30 = .ok (.getfield 117, 3) := by decide +kernel
theorem dX8_come_33 : decode cX8_come 33 = .ok (.iload_n 1, 1) := by decide +kernel
theorem dX8_come_34 : decode cX8_come 34 = .ok (.iaload, 1) := by decide +kernel
theorem dX8_come_35 : decode cX8_come 35 = .ok (.istore_n 3, 1) := by decide +kernel
theorem dX8_come_36 : decode cX8_come 36 = .ok (.aload_n 0, 1) := by decide +kernel
theorem dX8_come_37 : decode cX8_come 37 = .ok (.getfield 26, 3) := by decide +kernel
theorem dX8_come_40 : decode cX8_come 40 = .ok (.getfield 117, 3) := by decide +kernel
theorem dX8_come_43 : decode cX8_come 43 = .ok (.iload_n 1, 1) := by decide +kernel
theorem dX8_come_44 : decode cX8_come 44 = .ok (.iload_n 2, 1) := by decide +kernel
theorem dX8_come_45 : decode cX8_come 45 = .ok (.iastore, 1) := by decide +kernel
theorem dX8_come_46 : decode cX8_come 46 = .ok (.iload_n 3, 1) := by decide +kernel
theorem dX8_come_47 : decode cX8_come 47 = .ok (.ireturn, 1) := by decide +kernel
theorem dX8_earned_0 : decode cX8_earned 0 = .ok (.iload_n 1, 1) := by decide +kernel
theorem dX8_earned_1 : decode cX8_earned 1 = .ok (.iconst 1, 1) := by decide +kernel
theorem dX8_earned_2 : decode cX8_earned 2 = .ok (.sipush 999, 3) := by decide +kernel
theorem dX8_earned_5 : decode cX8_earned 5 = .ok (.invokestatic 72, 3) := by decide +kernel
theorem dX8_earned_8 : decode cX8_earned 8 = .ok (.ifCond .eq 11, 3) := by decide +kernel
theorem dX8_earned_11 : decode cX8_earned 11 = .ok (.iload_n 2, 1) := by decide +kernel
theorem dX8_earned_12 : decode cX8_earned 12 = .ok (.iload_n 3, 1) := by decide +kernel
theorem dX8_earned_13 : decode cX8_earned 13 = .ok (.invokestatic 213, 3) := by decide +kernel
theorem dX8_earned_16 : decode cX8_earned 16 = .ok (.ifCond .ne 6, 3) := by decide +kernel
theorem dX8_earned_19 : decode cX8_earned 19 = .ok (.bipush (-2), 2) := by decide +kernel
theorem dX8_earned_21 : decode cX8_earned 21 = .ok (.ireturn, 1) := by decide +kernel
theorem dX8_earned_22 : decode cX8_earned 22 = .ok (.aload_n 0, 1) := by decide +kernel
theorem dX8_earned_23 : decode cX8_earned 23 = .ok (.iload_n 1, 1) := by decide +kernel
theorem dX8_earned_24 : decode cX8_earned 24 = .ok (.iload_n 2, 1) := by decide +kernel
theorem dX8_earned_25 : decode cX8_earned 25 = .ok (.iload_n 3, 1) := by decide +kernel
theorem dX8_earned_26 : decode cX8_earned 26 = .ok (.invokevirtual 216, 3) := by decide +kernel
theorem dX8_earned_29 : decode cX8_earned 29 = .ok (.ldc 220, 2) := by decide +kernel
theorem dX8_earned_31 : decode cX8_earned 31 = .ok (.iadd, 1) := by decide +kernel
theorem dX8_earned_32 : decode cX8_earned 32 = .ok (.ireturn, 1) := by decide +kernel
theorem dX8_ask_0 : decode cX8_ask 0 = .ok (.iload_n 1, 1) := by decide +kernel
theorem dX8_ask_1 : decode cX8_ask 1 = .ok (.iload_n 2, 1) := by decide +kernel
theorem dX8_ask_2 : decode cX8_ask 2 = .ok (.invokestatic 213, 3) := by decide +kernel
theorem dX8_ask_5 : decode cX8_ask 5 = .ok (.ifCond .ne 6, 3) := by decide +kernel
theorem dX8_ask_8 : decode cX8_ask 8 = .ok (.bipush (-2), 2) := by decide +kernel
theorem dX8_ask_10 : decode cX8_ask 10 = .ok (.ireturn, 1) := by decide +kernel
theorem dX8_ask_11 : decode cX8_ask 11 = .ok (.iconst 1, 1) := by decide +kernel
end
section
theorem dX8_ask_12 : decode cX8_ask 12 = .ok (.istore_n 3, 1) := by decide +kernel
theorem dX8_ask_13 : decode cX8_ask 13 = .ok (.aload_n 0, 1) := by decide +kernel
theorem dX8_ask_14 : decode cX8_ask 14 = .ok (.iconst 1, 1) := by decide +kernel
theorem dX8_ask_15 : decode cX8_ask 15 = .ok (.iload_n 1, 1) := by decide +kernel
theorem dX8_ask_16 : decode cX8_ask 16 = .ok (.iload_n 2, 1) := by decide +kernel
theorem dX8_ask_17 : decode cX8_ask 17 = .ok (.invokevirtual 216, 3) := by decide +kernel
theorem dX8_ask_20 : decode cX8_ask 20 = .ok (.istore 4, 2) := by decide +kernel
theorem dX8_ask_22 : decode cX8_ask 22 = .ok (.iconst 2, 1) := by decide +kernel
theorem dX8_ask_23 : decode cX8_ask 23 = .ok (.istore 5, 2) := by decide +kernel
theorem dX8_ask_25 : decode cX8_ask 25 = .ok (.iload 5, 2) := by decide +kernel
theorem dX8_ask_27 : decode cX8_ask 27 = .ok (.sipush 999, 3) := by decide +kernel
theorem dX8_ask_30 : decode cX8_ask 30 = .ok (.if_icmp .gt 33, 3) := by decide +kernel
theorem dX8_ask_33 : decode cX8_ask 33 = .ok (.aload_n 0, 1) := by decide +kernel
theorem dX8_ask_34 : decode cX8_ask 34 = .ok (.iload 5, 2) := by decide +kernel
theorem dX8_ask_36 : decode cX8_ask 36 = .ok (.iload_n 1, 1) := by decide +kernel
theorem dX8_ask_37 : decode cX8_ask 37 = .ok (.iload_n 2, 1) := by decide +kernel
theorem dX8_ask_38 : decode cX8_ask 38 = .ok (.invokevirtual 216, 3) := by decide +kernel
theorem dX8_ask_41 : decode cX8_ask 41 = .ok (.istore 6, 2) := by decide +kernel
theorem dX8_ask_43 : decode cX8_ask 43 = .ok (.iload 6, 2) := by decide +kernel
theorem dX8_ask_45 : decode cX8_ask 45 = .ok (.iload 4, 2) := by decide +kernel
theorem dX8_ask_47 : decode cX8_ask 47 = .ok (.if_icmp .le 10, 3) := by decide +kernel
theorem dX8_ask_50 : decode cX8_ask 50 = .ok (.iload 6, 2) := by decide +kernel
theorem dX8_ask_52 : decode cX8_ask 52 = .ok (.istore 4, 2) := by decide +kernel
theorem dX8_ask_54 : decode cX8_ask 54 = .ok (.iload 5, 2) := by decide +kernel
theorem dX8_ask_56 : decode cX8_ask 56 = .ok (.istore_n 3, 1) := by decide +kernel
theorem dX8_ask_57 : decode cX8_ask 57 = .ok (.iinc 5 1, 3) := by decide +kernel
theorem dX8_ask_60 : decode cX8_ask 60 = .ok (.goto (-35), 3) := by decide +kernel
theorem dX8_ask_63 : decode cX8_ask 63 = .ok (.iload_n 3, 1) := by decide +kernel
theorem dX8_ask_64 : decode cX8_ask 64 = .ok (.ireturn, 1) := by decide +kernel
theorem dX8_keeper_0 : decode cX8_keeper 0 = .ok (.aload_n 0, 1) := by decide +kernel
theorem dX8_keeper_1 : decode cX8_keeper 1 = .ok (.getfield 26, 3) := by decide +kernel
theorem dX8_keeper_4 : decode cX8_keeper 4 = .ok (.iload_n 1, 1) := by decide +kernel
theorem dX8_keeper_5 : decode cX8_keeper 5 = .ok (.invokevirtual 99, 3) := by decide +kernel
theorem dX8_keeper_8 : decode cX8_keeper 8 = .ok (.ifCond .ne 5, 3) := by decide +kernel
theorem dX8_keeper_11 : decode cX8_keeper 11 = .ok (.iconst (-1), 1) := by decide +kernel
theorem dX8_keeper_12 : decode cX8_keeper 12 = .ok (.ireturn, 1) := by decide +kernel
theorem dX8_keeper_13 : decode cX8_keeper 13 = .ok (.aload_n 0, 1) := by decide +kernel
theorem dX8_keeper_14 : decode cX8_keeper 14 = .ok (.getfield 26, 3) := by decide +kernel
theorem dX8_keeper_17 : decode cX8_keeper 17 = .ok (.iload_n 1, 1) := by decide +kernel
theorem dX8_keeper_18 : decode cX8_keeper 18 = .ok (.invokevirtual 120, 3) := by decide +kernel
theorem dX8_keeper_21 : decode cX8_keeper 21 = .ok (.iload_n 2, 1) := by decide +kernel
theorem dX8_keeper_22 : decode cX8_keeper 22 = .ok (.if_icmp .ne 5, 3) := by decide +kernel
theorem dX8_keeper_25 : decode cX8_keeper 25 = .ok (.iconst 0, 1) := by decide +kernel
theorem dX8_keeper_26 : decode cX8_keeper 26 = .ok (.ireturn, 1) := by decide +kernel
theorem dX8_keeper_27 : decode cX8_keeper 27 = .ok (.aload_n 0, 1) := by decide +kernel
theorem dX8_keeper_28 : decode cX8_keeper 28 = .ok (.getfield 26, 3) := by decide +kernel
theorem dX8_keeper_31 : decode cX8_keeper 31 = .ok (.dup, 1) := by decide +kernel
theorem dX8_keeper_32 : decode cX8_keeper 32 = .ok (.getfield 221, 3) := by decide +kernel
theorem dX8_keeper_35 : decode cX8_keeper 35 = .ok (.iconst 1, 1) := by decide +kernel
theorem dX8_keeper_36 : decode cX8_keeper 36 = .ok (.iload_n 1, 1) := by decide +kernel
theorem dX8_keeper_37 : decode cX8_keeper 37 = .ok (.ishl, 1) := by decide +kernel
theorem dX8_keeper_38 : decode cX8_keeper 38 = .ok (.ixor, 1) := by decide +kernel
theorem dX8_keeper_39 : decode cX8_keeper 39 = .ok (.putfield 221, 3) := by decide +kernel
theorem dX8_keeper_42 : decode cX8_keeper 42 = .ok (.iconst 1, 1) := by decide +kernel
theorem dX8_keeper_43 : decode cX8_keeper 43 = .ok (.ireturn, 1) := by decide +kernel
theorem dX8_losers_0 : decode cX8_losers 0 = .ok (.iload_n 1, 1) := by decide +kernel
theorem dX8_losers_1 : decode cX8_losers 1 = .ok (.iconst 1, 1) := by decide +kernel
theorem dX8_losers_2 : decode cX8_losers 2 = .ok (.bipush 99, 2) := by decide +kernel
theorem dX8_losers_4 : decode cX8_losers 4 = .ok (.invokestatic 72, 3) := by decide +kernel
theorem dX8_losers_7 : decode cX8_losers 7 = .ok (.ifCond .eq 11, 3) := by decide +kernel
theorem dX8_losers_10 : decode cX8_losers 10 = .ok (.aload_n 0, 1) := by decide +kernel
theorem dX8_losers_11 : decode cX8_losers 11 = .ok (.iload_n 1, 1) := by decide +kernel
theorem dX8_losers_12 : decode cX8_losers 12 = .ok (.invokevirtual 224, 3) := by decide +kernel
theorem dX8_losers_15 : decode cX8_losers 15 = .ok (.goto 5, 3) := by decide +kernel
theorem dX8_losers_18 : decode cX8_losers 18 = .ok (.bipush (-2), 2) := by decide +kernel
theorem dX8_losers_20 : decode cX8_losers 20 = .ok (.ireturn, 1) := by decide +kernel
theorem dX8_fairest_0 : decode cX8_fairest 0 = .ok (.iconst 1, 1) := by decide +kernel
theorem dX8_fairest_1 : decode cX8_fairest 1 = .ok (.istore_n 1, 1) := by decide +kernel
theorem dX8_fairest_2 : decode cX8_fairest 2 = .ok (.aload_n 0, 1) := by decide +kernel
theorem dX8_fairest_3 : decode cX8_fairest 3 = .ok (.iconst 1, 1) := by decide +kernel
theorem dX8_fairest_4 : decode cX8_fairest 4 = .ok (.invokevirtual 224, 3) := by decide +kernel
theorem dX8_fairest_7 : decode cX8_fairest 7 = .ok (.istore_n 2, 1) := by decide +kernel
theorem dX8_fairest_8 : decode cX8_fairest 8 = .ok (.iconst 2, 1) := by decide +kernel
theorem dX8_fairest_9 : decode cX8_fairest 9 = .ok (.istore_n 3, 1) := by decide +kernel
theorem dX8_fairest_10 : decode cX8_fairest 10 = .ok (.iload_n 3, 1) := by decide +kernel
theorem dX8_fairest_11 : decode cX8_fairest 11 = .ok (.bipush 99, 2) := by decide +kernel
theorem dX8_fairest_13 : decode cX8_fairest 13 = .ok (.if_icmp .gt 27, 3) := by decide +kernel
theorem dX8_fairest_16 : decode cX8_fairest 16 = .ok (.aload_n 0, 1) := by decide +kernel
theorem dX8_fairest_17 : decode cX8_fairest 17 = .ok (.iload_n 3, 1) := by decide +kernel
theorem dX8_fairest_18 : decode cX8_fairest 18 = .ok (.invokevirtual 224, 3) := by decide +kernel
theorem dX8_fairest_21 : decode cX8_fairest 21 = .ok (.istore 4, 2) := by decide +kernel
theorem dX8_fairest_23 : decode cX8_fairest 23 = .ok (.iload 4, 2) := by decide +kernel
theorem dX8_fairest_25 : decode cX8_fairest 25 = .ok (.iload_n 2, 1) := by decide +kernel
theorem dX8_fairest_26 : decode cX8_fairest 26 = .ok (.if_icmp .ge 8, 3) := by decide +kernel
theorem dX8_fairest_29 : decode cX8_fairest 29 = .ok (.iload 4, 2) := by decide +kernel
theorem dX8_fairest_31 : decode cX8_fairest 31 = .ok (.istore_n 2, 1) := by decide +kernel
theorem dX8_fairest_32 : decode cX8_fairest 32 = .ok (.iload_n 3, 1) := by decide +kernel
theorem dX8_fairest_33 : decode cX8_fairest 33 = .ok (.istore_n 1, 1) := by decide +kernel
theorem dX8_fairest_34 : decode cX8_fairest 34 = .ok (.iinc 3 1, 3) := by decide +kernel
theorem dX8_fairest_37 : decode cX8_fairest 37 = .ok (.goto (-27), 3) := by decide +kernel
theorem dX8_fairest_40 : decode cX8_fairest 40 = .ok (.iload_n 1, 1) := by decide +kernel
theorem dX8_fairest_41 : decode cX8_fairest 41 = .ok (.ireturn, 1) := by decide +kernel
theorem dX8_cut_0 : decode cX8_cut 0 = .ok (.iload_n 1, 1) := by decide +kernel
theorem dX8_cut_1 : decode cX8_cut 1 = .ok (.iconst 1, 1) := by decide +kernel
theorem dX8_cut_2 : decode cX8_cut 2 = .ok (.sipush 999, 3) := by decide +kernel
theorem dX8_cut_5 : decode cX8_cut 5 = .ok (.invokestatic 72, 3) := by decide +kernel
theorem dX8_cut_8 : decode cX8_cut 8 = .ok (.ifCond .eq 22, 3) := by decide +kernel
theorem dX8_cut_11 : decode cX8_cut 11 = .ok (.iload_n 2, 1) := by decide +kernel
theorem dX8_cut_12 : decode cX8_cut 12 = .ok (.iconst 0, 1) := by decide +kernel
theorem dX8_cut_13 : decode cX8_cut 13 = .ok (.iconst 1, 1) := by decide +kernel
theorem dX8_cut_14 : decode cX8_cut 14 = .ok (.aload_n 0, 1) := by decide +kernel
theorem dX8_cut_15 : decode cX8_cut 15 = .ok (.getfield 26, 3) := by decide +kernel
theorem dX8_cut_18 : decode cX8_cut 18 = .ok (.getfield 96, 3) := by decide +kernel
theorem dX8_cut_21 : decode cX8_cut 21 = .ok (.ishl, 1) := by decide +kernel
theorem dX8_cut_22 : decode cX8_cut 22 = .ok (.iconst 1, 1) := by decide +kernel
theorem dX8_cut_23 : decode cX8_cut 23 = .ok (.isub, 1) := by decide +kernel
theorem dX8_cut_24 : decode cX8_cut 24 = .ok (.invokestatic 72, 3) := by decide +kernel
theorem dX8_cut_27 : decode cX8_cut 27 = .ok (.ifCond .ne 6, 3) := by decide +kernel
theorem dX8_cut_30 : decode cX8_cut 30 = .ok (.bipush (-2), 2) := by decide +kernel
theorem dX8_cut_32 : decode cX8_cut 32 = .ok (.ireturn, 1) := by decide +kernel
theorem dX8_cut_33 : decode cX8_cut 33 = .ok (.aload_n 0, 1) := by decide +kernel
theorem dX8_cut_34 : decode cX8_cut 34 = .ok (.getfield 61, 3) := by decide +kernel
theorem dX8_cut_37 : decode cX8_cut 37 = .ok (.iload_n 1, 1) := by decide +kernel
theorem dX8_cut_38 : decode cX8_cut 38 = .ok (.iload_n 2, 1) := by decide +kernel
theorem dX8_cut_39 : decode cX8_cut 39 = .ok (.aload_n 0, 1) := by decide +kernel
theorem dX8_cut_40 : decode cX8_cut 40 = .ok (.getfield 36, 3) := by decide +kernel
theorem dX8_cut_43 : decode cX8_cut 43 = .ok (.getfield 103, 3) := by decide +kernel
theorem dX8_cut_46 : decode cX8_cut 46 = .ok (.invokevirtual 227, 3) := by decide +kernel
theorem dX8_cut_49 : decode cX8_cut 49 = .ok (.iload_n 3, 1) := by decide +kernel
theorem dX8_cut_50 : decode cX8_cut 50 = .ok (.ifCond .eq 13, 3) := by decide +kernel
theorem dX8_cut_53 : decode cX8_cut 53 = .ok (.aload_n 0, 1) := by decide +kernel
theorem dX8_cut_54 : decode cX8_cut 54 = .ok (.getfield 61, 3) := by decide +kernel
theorem dX8_cut_57 : decode cX8_cut 57 = .ok (.getfield 230, 3) := by decide +kernel
theorem dX8_cut_60 : decode cX8_cut 60 = .ok (.goto 10, 3) := by decide +kernel
theorem dX8_cut_63 : decode cX8_cut 63 = .ok (.aload_n 0, 1) := by decide +kernel
theorem dX8_cut_64 : decode cX8_cut 64 = .ok (.getfield 61, 3) := by decide +kernel
theorem dX8_cut_67 : decode cX8_cut 67 = .ok (.getfield 233, 3) := by decide +kernel
theorem dX8_cut_70 : decode cX8_cut 70 = .ok (.ireturn, 1) := by decide +kernel
theorem dX8_when_0 : decode cX8_when 0 = .ok (.aload_n 0, 1) := by decide +kernel
theorem dX8_when_1 : decode cX8_when 1 = .ok (.getfield 26, 3) := by decide +kernel
theorem dX8_when_4 : decode cX8_when 4 = .ok (.iload_n 1, 1) := by decide +kernel
theorem dX8_when_5 : decode cX8_when 5 = .ok (.invokevirtual 99, 3) := by decide +kernel
theorem dX8_when_8 : decode cX8_when 8 = .ok (.ifCond .eq 14, 3) := by decide +kernel
theorem dX8_when_11 : decode cX8_when 11 = .ok (.aload_n 0, 1) := by decide +kernel
theorem dX8_when_12 : decode cX8_when 12 = .ok (.getfield 26, 3) := by decide +kernel
theorem dX8_when_15 : decode cX8_when 15 = .ok (.iload_n 2, 1) := by decide +kernel
theorem dX8_when_16 : decode cX8_when 16 = .ok (.invokevirtual 123, 3) := by decide +kernel
theorem dX8_when_19 : decode cX8_when 19 = .ok (.ifCond .ne 5, 3) := by decide +kernel
theorem dX8_when_22 : decode cX8_when 22 = .ok (.iconst (-1), 1) := by decide +kernel
theorem dX8_when_23 : decode cX8_when 23 = .ok (.ireturn, 1) := by decide +kernel
theorem dX8_when_24 : decode cX8_when 24 = .ok (.iload_n 3, 1) := by decide +kernel
theorem dX8_when_25 : decode cX8_when 25 = .ok (.iconst 0, 1) := by decide +kernel
theorem dX8_when_26 : decode cX8_when 26 = .ok (.bipush 9, 2) := by decide +kernel
theorem dX8_when_28 : decode cX8_when 28 = .ok (.invokestatic 72, 3) := by decide +kernel
theorem dX8_when_31 : decode cX8_when 31 = .ok (.ifCond .eq 14, 3) := by decide +kernel
theorem dX8_when_34 : decode cX8_when 34 = .ok (.iload 4, 2) := by decide +kernel
theorem dX8_when_36 : decode cX8_when 36 = .ok (.iconst 0, 1) := by decide +kernel
theorem dX8_when_37 : decode cX8_when 37 = .ok (.bipush 9, 2) := by decide +kernel
theorem dX8_when_39 : decode cX8_when 39 = .ok (.invokestatic 72, 3) := by decide +kernel
theorem dX8_when_42 : decode cX8_when 42 = .ok (.ifCond .ne 6, 3) := by decide +kernel
theorem dX8_when_45 : decode cX8_when 45 = .ok (.bipush (-2), 2) := by decide +kernel
theorem dX8_when_47 : decode cX8_when 47 = .ok (.ireturn, 1) := by decide +kernel
theorem dX8_when_48 : decode cX8_when 48 = .ok (.iconst 0, 1) := by decide +kernel
theorem dX8_when_49 : decode cX8_when 49 = .ok (.istore 5, 2) := by decide +kernel
theorem dX8_when_51 : decode cX8_when 51 = .ok (.aload_n 0, 1) := by decide +kernel
theorem dX8_when_52 : decode cX8_when 52 = .ok (.getfield 36, 3) := by decide +kernel
theorem dX8_when_55 : decode cX8_when 55 = .ok (.getfield 103, 3) := by decide +kernel
theorem dX8_when_58 : decode cX8_when 58 = .ok (.iload_n 1, 1) := by decide +kernel
theorem dX8_when_59 : decode cX8_when 59 = .ok (.iaload, 1) := by decide +kernel
theorem dX8_when_60 : decode cX8_when 60 = .ok (.istore 6, 2) := by decide +kernel
theorem dX8_when_62 : decode cX8_when 62 = .ok (.aload_n 0, 1) := by decide +kernel
theorem dX8_when_63 : decode cX8_when 63 = .ok (.getfield 26, 3) := by decide +kernel
theorem dX8_when_66 : decode cX8_when 66 = .ok (.getfield 126, 3) := by decide +kernel
theorem dX8_when_69 : decode cX8_when 69 = .ok (.iload_n 2, 1) := by decide +kernel
theorem dX8_when_70 : decode cX8_when 70 = .ok (.iaload, 1) := by decide +kernel
theorem dX8_when_71 : decode cX8_when 71 = .ok (.istore 7, 2) := by decide +kernel
theorem dX8_when_73 : decode cX8_when 73 = .ok (.iconst 1, 1) := by decide +kernel
theorem dX8_when_74 : decode cX8_when 74 = .ok (.istore 8, 2) := by decide +kernel
theorem dX8_when_76 : decode cX8_when 76 = .ok (.iload 8, 2) := by decide +kernel
theorem dX8_when_78 : decode cX8_when 78 = .ok (.bipush 30, 2) := by decide +kernel
theorem dX8_when_80 : decode cX8_when 80 = .ok (.if_icmp .gt 72, 3) := by decide +kernel
theorem dX8_when_83 : decode cX8_when 83 = .ok (.bipush 99, 2) := by decide +kernel
theorem dX8_when_85 : decode cX8_when 85 = .ok (.aload_n 0, 1) := by decide +kernel
theorem dX8_when_86 : decode cX8_when 86 = .ok (.getfield 36, 3) := by decide +kernel
theorem dX8_when_89 : decode cX8_when 89 = .ok (.getfield 103, 3) := by decide +kernel
theorem dX8_when_92 : decode cX8_when 92 = .ok (.iload_n 1, 1) := by decide +kernel
theorem dX8_when_93 : decode cX8_when 93 = .ok (.iaload, 1) := by decide +kernel
theorem dX8_when_94 : decode cX8_when 94 = .ok (.iload 8, 2) := by decide +kernel
theorem dX8_when_96 : decode cX8_when 96 = .ok (.iload_n 3, 1) := by decide +kernel
theorem dX8_when_97 : decode cX8_when 97 = .ok (.imul, 1) := by decide +kernel
theorem dX8_when_98 : decode cX8_when 98 = .ok (.iadd, 1) := by decide +kernel
theorem dX8_when_99 : decode cX8_when 99 = .ok (.invokestatic 236, 3) := by decide +kernel
theorem dX8_when_102 : decode cX8_when 102 = .ok (.istore 9, 2) := by decide +kernel
theorem dX8_when_104 : decode cX8_when 104 = .ok (.aload_n 0, 1) := by decide +kernel
theorem dX8_when_105 : decode cX8_when 105 = .ok (.getfield 26, 3) := by decide +kernel
theorem dX8_when_108 : decode cX8_when 108 = .ok (.getfield 126, 3) := by decide +kernel
theorem dX8_when_111 : decode cX8_when 111 = .ok (.iload_n 2, 1) := by decide +kernel
theorem dX8_when_112 : decode cX8_when 112 = .ok (.iaload, 1) := by decide +kernel
theorem dX8_when_113 : decode cX8_when 113 = .ok (.iload 8, 2) := by decide +kernel
theorem dX8_when_115 : decode cX8_when 115 = .ok (.iload 4, 2) := by decide +kernel
theorem dX8_when_117 : decode cX8_when 117 = .ok (.imul, 1) := by decide +kernel
theorem dX8_when_118 : decode cX8_when 118 = .ok (.iadd, 1) := by decide +kernel
theorem dX8_when_119 : decode cX8_when 119 = .ok (.istore 10, 2) := by decide +kernel
theorem dX8_when_121 : decode cX8_when 121 = .ok (.iload 9, 2) := by decide +kernel
theorem dX8_when_123 : decode cX8_when 123 = .ok (.iload 7, 2) := by decide +kernel
theorem dX8_when_125 : decode cX8_when 125 = .ok (.imul, 1) := by decide +kernel
theorem dX8_when_126 : decode cX8_when 126 = .ok (.iload 6, 2) := by decide +kernel
theorem dX8_when_128 : decode cX8_when 128 = .ok (.iload 10, 2) := by decide +kernel
theorem dX8_when_130 : decode cX8_when 130 = .ok (.imul, 1) := by decide +kernel
theorem dX8_when_131 : decode cX8_when 131 = .ok (.if_icmp .le 15, 3) := by decide +kernel
theorem dX8_when_134 : decode cX8_when 134 = .ok (.iload 8, 2) := by decide +kernel
theorem dX8_when_136 : decode cX8_when 136 = .ok (.istore 5, 2) := by decide +kernel
theorem dX8_when_138 : decode cX8_when 138 = .ok (.iload 9, 2) := by decide +kernel
theorem dX8_when_140 : decode cX8_when 140 = .ok (.istore 6, 2) := by decide +kernel
theorem dX8_when_142 : decode cX8_when 142 = .ok (.iload 10, 2) := by decide +kernel
theorem dX8_when_144 : decode cX8_when 144 = .ok (.istore 7, 2) := by decide +kernel
theorem dX8_when_146 : decode cX8_when 146 = .ok (.iinc 8 1, 3) := by decide +kernel
theorem dX8_when_149 : decode cX8_when 149 = .ok (.goto (-73), 3) := by decide +kernel
theorem dX8_when_152 : decode cX8_when 152 = .ok (.iload 5, 2) := by decide +kernel
theorem dX8_when_154 : decode cX8_when 154 = .ok (.ireturn, 1) := by decide +kernel
theorem dX8_held_0 : decode cX8_held 0 = .ok (.iload_n 1, 1) := by decide +kernel
theorem dX8_held_1 : decode cX8_held 1 = .ok (.iconst 0, 1) := by decide +kernel
theorem dX8_held_2 : decode cX8_held 2 = .ok (.iconst 2, 1) := by decide +kernel
theorem dX8_held_3 : decode cX8_held 3 = .ok (.invokestatic 72, 3) := by decide +kernel
theorem dX8_held_6 : decode cX8_held 6 = .ok (.ifCond .eq 12, 3) := by decide +kernel
theorem dX8_held_9 : decode cX8_held 9 = .ok (.iload_n 3, 1) := by decide +kernel
theorem dX8_held_10 : decode cX8_held 10 = .ok (.iconst 0, 1) := by decide +kernel
theorem dX8_held_11 : decode cX8_held 11 = .ok (.iconst 2, 1) := by decide +kernel
theorem dX8_held_12 : decode cX8_held 12 = .ok (.invokestatic 72, 3) := by decide +kernel
theorem dX8_held_15 : decode cX8_held 15 = .ok (.ifCond .ne 5, 3) := by decide +kernel
theorem dX8_held_18 : decode cX8_held 18 = .ok (.iconst (-1), 1) := by decide +kernel
theorem dX8_held_19 : decode cX8_held 19 = .ok (.ireturn, 1) := by decide +kernel
theorem dX8_held_20 : decode cX8_held 20 = .ok (.iload_n 1, 1) := by decide +kernel
theorem dX8_held_21 : decode cX8_held 21 = .ok (.iload_n 3, 1) := by decide +kernel
theorem dX8_held_22 : decode cX8_held 22 = .ok (.if_icmp .eq 34, 3) := by decide +kernel
theorem dX8_held_25 : decode cX8_held 25 = .ok (.iload_n 2, 1) := by decide +kernel
theorem dX8_held_26 : decode cX8_held 26 = .ok (.iconst 1, 1) := by decide +kernel
theorem dX8_held_27 : decode cX8_held 27 = .ok (.bipush 9, 2) := by decide +kernel
theorem dX8_held_29 : decode cX8_held 29 = .ok (.invokestatic 72, 3) := by decide +kernel
theorem dX8_held_32 : decode cX8_held 32 = .ok (.ifCond .eq 24, 3) := by decide +kernel
theorem dX8_held_35 : decode cX8_held 35 = .ok (.iload 4, 2) := by decide +kernel
theorem dX8_held_37 : decode cX8_held 37 = .ok (.iconst 1, 1) := by decide +kernel
theorem dX8_held_38 : decode cX8_held 38 = .ok (.bipush 9, 2) := by decide +kernel
theorem dX8_held_40 : decode cX8_held 40 = .ok (.invokestatic 72, 3) := by decide +kernel
theorem dX8_held_43 : decode cX8_held 43 = .ok (.ifCond .eq 13, 3) := by decide +kernel
theorem dX8_held_46 : decode cX8_held 46 = .ok (.iload 5, 2) := by decide +kernel
theorem dX8_held_48 : decode cX8_held 48 = .ok (.iconst (-1), 1) := by decide +kernel
theorem dX8_held_49 : decode cX8_held 49 = .ok (.iconst 1, 1) := by decide +kernel
theorem dX8_held_50 : decode cX8_held 50 = .ok (.invokestatic 72, 3) := by decide +kernel
theorem dX8_held_53 : decode cX8_held 53 = .ok (.ifCond .ne 6, 3) := by decide +kernel
theorem dX8_held_56 : decode cX8_held 56 = .ok (.bipush (-2), 2) := by decide +kernel
theorem dX8_held_58 : decode cX8_held 58 = .ok (.ireturn, 1) := by decide +kernel
theorem dX8_held_59 : decode cX8_held 59 = .ok (.aload_n 0, 1) := by decide +kernel
theorem dX8_held_60 : decode cX8_held 60 = .ok (.getfield 68, 3) := by decide +kernel
theorem dX8_held_63 : decode cX8_held 63 = .ok (.getfield 242, 3) := by decide +kernel
theorem dX8_held_66 : decode cX8_held 66 = .ok (.bipush 8, 2) := by decide +kernel
theorem dX8_held_68 : decode cX8_held 68 = .ok (.if_icmp .lt 6, 3) := by decide +kernel
theorem dX8_held_71 : decode cX8_held 71 = .ok (.bipush (-4), 2) := by decide +kernel
theorem dX8_held_73 : decode cX8_held 73 = .ok (.ireturn, 1) := by decide +kernel
theorem dX8_held_74 : decode cX8_held 74 = .ok (.iload_n 1, 1) := by decide +kernel
theorem dX8_held_75 : decode cX8_held 75 = .ok (.iload_n 3, 1) := by decide +kernel
theorem dX8_held_76 : decode cX8_held 76 = .ok (.if_icmp .ge 20, 3) := by decide +kernel
theorem dX8_held_79 : decode cX8_held 79 = .ok (.aload_n 0, 1) := by decide +kernel
theorem dX8_held_80 : decode cX8_held 80 = .ok (.getfield 68, 3) := by decide +kernel
theorem dX8_held_83 : decode cX8_held 83 = .ok (.iload_n 1, 1) := by decide +kernel
theorem dX8_held_84 : decode cX8_held 84 = .ok (.iload_n 2, 1) := by decide +kernel
theorem dX8_held_85 : decode cX8_held 85 = .ok (.iload_n 3, 1) := by decide +kernel
theorem dX8_held_86 : decode cX8_held 86 = .ok (.iload 4, 2) := by decide +kernel
theorem dX8_held_88 : decode cX8_held 88 = .ok (.iload 5, 2) := by decide +kernel
theorem dX8_held_90 : decode cX8_held 90 = .ok (.invokevirtual 245, 3) := by decide +kernel
theorem dX8_held_93 : decode cX8_held 93 = .ok (.goto 18, 3) := by decide +kernel
theorem dX8_held_96 : decode cX8_held 96 = .ok (.aload_n 0, 1) := by decide +kernel
theorem dX8_held_97 : decode cX8_held 97 = .ok (.getfield 68, 3) := by decide +kernel
theorem dX8_held_100 : decode cX8_held 100 = .ok (.iload_n 3, 1) := by decide +kernel
theorem dX8_held_101 : decode cX8_held 101 = .ok (.iload 4, 2) := by decide +kernel
theorem dX8_held_103 : decode cX8_held 103 = .ok (.iload_n 1, 1) := by decide +kernel
theorem dX8_held_104 : decode cX8_held 104 = .ok (.iload_n 2, 1) := by decide +kernel
theorem dX8_held_105 : decode cX8_held 105 = .ok (.iload 5, 2) := by decide +kernel
theorem dX8_held_107 : decode cX8_held 107 = .ok (.ineg, 1) := by decide +kernel
theorem dX8_held_108 : decode cX8_held 108 = .ok (.invokevirtual 245, 3) := by decide +kernel
theorem dX8_held_111 : decode cX8_held 111 = .ok (.aload_n 0, 1) := by decide +kernel
theorem dX8_held_112 : decode cX8_held 112 = .ok (.getfield 68, 3) := by decide +kernel
theorem dX8_held_115 : decode cX8_held 115 = .ok (.getfield 242, 3) := by decide +kernel
theorem dX8_held_118 : decode cX8_held 118 = .ok (.ireturn, 1) := by decide +kernel
theorem dX8_unheld_0 : decode cX8_unheld 0 = .ok (.aload_n 0, 1) := by decide +kernel
theorem dX8_unheld_1 : decode cX8_unheld 1 = .ok (.getfield 68, 3) := by decide +kernel
theorem dX8_unheld_4 : decode cX8_unheld 4 = .ok (.getfield 242, 3) := by decide +kernel
theorem dX8_unheld_7 : decode cX8_unheld 7 = .ok (.istore_n 1, 1) := by decide +kernel
theorem dX8_unheld_8 : decode cX8_unheld 8 = .ok (.aload_n 0, 1) := by decide +kernel
theorem dX8_unheld_9 : decode cX8_unheld 9 = .ok (.getfield 68, 3) := by decide +kernel
theorem dX8_unheld_12 : decode cX8_unheld 12 = .ok (.invokevirtual 248, 3) := by decide +kernel
theorem dX8_unheld_15 : decode cX8_unheld 15 = .ok (.iload_n 1, 1) := by decide +kernel
theorem dX8_unheld_16 : decode cX8_unheld 16 = .ok (.ireturn, 1) := by decide +kernel
theorem dX8_mayBe_0 : decode cX8_mayBe 0 = .ok (.aload_n 0, 1) := by decide +kernel
theorem dX8_mayBe_1 : decode cX8_mayBe 1 = .ok (.getfield 68, 3) := by decide +kernel
theorem dX8_mayBe_4 : decode cX8_mayBe 4 = .ok (.invokevirtual 251, 3) := by decide +kernel
theorem dX8_mayBe_7 : decode cX8_mayBe 7 = .ok (.aload_n 0, 1) := by decide +kernel
theorem dX8_mayBe_8 : decode cX8_mayBe 8 = .ok (.getfield 68, 3) := by decide +kernel
theorem dX8_mayBe_11 : decode cX8_mayBe 11 = .ok (.getfield 253, 3) := by decide +kernel
theorem dX8_mayBe_14 : decode cX8_mayBe 14 = .ok (.ireturn, 1) := by decide +kernel
theorem dX8_arm_0 : decode cX8_arm 0 = .ok (.iload_n 1, 1) := by decide +kernel
theorem dX8_arm_1 : decode cX8_arm 1 = .ok (.iconst 0, 1) := by decide +kernel
theorem dX8_arm_2 : decode cX8_arm 2 = .ok (.iconst 2, 1) := by decide +kernel
theorem dX8_arm_3 : decode cX8_arm 3 = .ok (.invokestatic 72, 3) := by decide +kernel
theorem dX8_arm_6 : decode cX8_arm 6 = .ok (.ifCond .ne 5, 3) := by decide +kernel
theorem dX8_arm_9 : decode cX8_arm 9 = .ok (.iconst (-1), 1) := by decide +kernel
theorem dX8_arm_10 : decode cX8_arm 10 = .ok (.ireturn, 1) := by decide +kernel
theorem dX8_arm_11 : decode cX8_arm 11 = .ok (.aload_n 0, 1) := by decide +kernel
theorem dX8_arm_12 : decode cX8_arm 12 = .ok (.getfield 68, 3) := by decide +kernel
theorem dX8_arm_15 : decode cX8_arm 15 = .ok (.invokevirtual 251, 3) := by decide +kernel
theorem dX8_arm_18 : decode cX8_arm 18 = .ok (.iload_n 2, 1) := by decide +kernel
theorem dX8_arm_19 : decode cX8_arm 19 = .ok (.ifCond .eq 14, 3) := by decide +kernel
theorem dX8_arm_22 : decode cX8_arm 22 = .ok (.aload_n 0, 1) := by decide +kernel
theorem dX8_arm_23 : decode cX8_arm 23 = .ok (.getfield 68, 3) := by decide +kernel
theorem dX8_arm_26 : decode cX8_arm 26 = .ok (.iload_n 1, 1) := by decide +kernel
theorem dX8_arm_27 : decode cX8_arm 27 = .ok (.invokevirtual 256, 3) := by decide +kernel
theorem dX8_arm_30 : decode cX8_arm 30 = .ok (.goto 11, 3) := by decide +kernel
theorem dX8_arm_33 : decode cX8_arm 33 = .ok (.aload_n 0, 1) := by decide +kernel
theorem dX8_arm_34 : decode cX8_arm 34 = .ok (.getfield 68, 3) := by decide +kernel
theorem dX8_arm_37 : decode cX8_arm 37 = .ok (.iload_n 1, 1) := by decide +kernel
theorem dX8_arm_38 : decode cX8_arm 38 = .ok (.invokevirtual 259, 3) := by decide +kernel
theorem dX8_arm_41 : decode cX8_arm 41 = .ok (.ireturn, 1) := by decide +kernel
theorem dX8_keep_0 : decode cX8_keep 0 = .ok (.iload_n 1, 1) := by decide +kernel
theorem dX8_keep_1 : decode cX8_keep 1 = .ok (.iconst 0, 1) := by decide +kernel
theorem dX8_keep_2 : decode cX8_keep 2 = .ok (.iconst 1, 1) := by decide +kernel
theorem dX8_keep_3 : decode cX8_keep 3 = .ok (.invokestatic 72, 3) := by decide +kernel
theorem dX8_keep_6 : decode cX8_keep 6 = .ok (.ifCond .ne 5, 3) := by decide +kernel
theorem dX8_keep_9 : decode cX8_keep 9 = .ok (.iconst (-1), 1) := by decide +kernel
theorem dX8_keep_10 : decode cX8_keep 10 = .ok (.ireturn, 1) := by decide +kernel
theorem dX8_keep_11 : decode cX8_keep 11 = .ok (.aload_n 0, 1) := by decide +kernel
theorem dX8_keep_12 : decode cX8_keep 12 = .ok (.getfield 40, 3) := by decide +kernel
theorem dX8_keep_15 : decode cX8_keep 15 = .ok (.iload_n 1, 1) := by decide +kernel
theorem dX8_keep_16 : decode cX8_keep 16 = .ok (.aaload, 1) := by decide +kernel
theorem dX8_keep_17 : decode cX8_keep 17 = .ok (.aload_n 0, 1) := by decide +kernel
theorem dX8_keep_18 : decode cX8_keep 18 = .ok (.getfield 36, 3) := by decide +kernel
theorem dX8_keep_21 : decode cX8_keep 21 = .ok (.invokevirtual 262, 3) := by decide +kernel
theorem dX8_keep_24 : decode cX8_keep 24 = .ok (.aload_n 0, 1) := by decide +kernel
theorem dX8_keep_25 : decode cX8_keep 25 = .ok (.getfield 40, 3) := by decide +kernel
theorem dX8_keep_28 : decode cX8_keep 28 = .ok (.iload_n 1, 1) := by decide +kernel
theorem dX8_keep_29 : decode cX8_keep 29 = .ok (.aaload, 1) := by decide +kernel
theorem dX8_keep_30 : decode cX8_keep 30 = .ok (.iconst 1, 1) := by decide +kernel
theorem dX8_keep_31 : decode cX8_keep 31 = .ok (.putfield 92, 3) := by decide +kernel
theorem dX8_keep_34 : decode cX8_keep 34 = .ok (.aload_n 0, 1) := by decide +kernel
theorem dX8_keep_35 : decode cX8_keep 35 = .ok (.getfield 36, 3) := by decide +kernel
theorem dX8_keep_38 : decode cX8_keep 38 = .ok (.getfield 146, 3) := by decide +kernel
theorem dX8_keep_41 : decode cX8_keep 41 = .ok (.ireturn, 1) := by decide +kernel
theorem dX8_again_0 : decode cX8_again 0 = .ok (.iload_n 1, 1) := by decide +kernel
theorem dX8_again_1 : decode cX8_again 1 = .ok (.iconst 0, 1) := by decide +kernel
theorem dX8_again_2 : decode cX8_again 2 = .ok (.iconst 1, 1) := by decide +kernel
theorem dX8_again_3 : decode cX8_again 3 = .ok (.invokestatic 72, 3) := by decide +kernel
theorem dX8_again_6 : decode cX8_again 6 = .ok (.ifCond .ne 5, 3) := by decide +kernel
theorem dX8_again_9 : decode cX8_again 9 = .ok (.iconst (-1), 1) := by decide +kernel
theorem dX8_again_10 : decode cX8_again 10 = .ok (.ireturn, 1) := by decide +kernel
theorem dX8_again_11 : decode cX8_again 11 = .ok (.aload_n 0, 1) := by decide +kernel
theorem dX8_again_12 : decode cX8_again 12 = .ok (.getfield 40, 3) := by decide +kernel
theorem dX8_again_15 : decode cX8_again 15 = .ok (.iload_n 1, 1) := by decide +kernel
theorem dX8_again_16 : decode cX8_again 16 = .ok (.aaload, 1) := by decide +kernel
theorem dX8_again_17 : decode cX8_again 17 = .ok (.getfield 92, 3) := by decide +kernel
theorem dX8_again_20 : decode cX8_again 20 = .ok (.ifCond .ne 6, 3) := by decide +kernel
theorem dX8_again_23 : decode cX8_again 23 = .ok (.bipush (-3), 2) := by decide +kernel
theorem dX8_again_25 : decode cX8_again 25 = .ok (.ireturn, 1) := by decide +kernel
theorem dX8_again_26 : decode cX8_again 26 = .ok (.aload_n 0, 1) := by decide +kernel
theorem dX8_again_27 : decode cX8_again 27 = .ok (.getfield 36, 3) := by decide +kernel
theorem dX8_again_30 : decode cX8_again 30 = .ok (.aload_n 0, 1) := by decide +kernel
theorem dX8_again_31 : decode cX8_again 31 = .ok (.getfield 40, 3) := by decide +kernel
theorem dX8_again_34 : decode cX8_again 34 = .ok (.iload_n 1, 1) := by decide +kernel
theorem dX8_again_35 : decode cX8_again 35 = .ok (.aaload, 1) := by decide +kernel
theorem dX8_again_36 : decode cX8_again 36 = .ok (.invokevirtual 262, 3) := by decide +kernel
theorem dX8_again_39 : decode cX8_again 39 = .ok (.aload_n 0, 1) := by decide +kernel
theorem dX8_again_40 : decode cX8_again 40 = .ok (.getfield 36, 3) := by decide +kernel
theorem dX8_again_43 : decode cX8_again 43 = .ok (.getfield 146, 3) := by decide +kernel
theorem dX8_again_46 : decode cX8_again 46 = .ok (.ireturn, 1) := by decide +kernel
theorem dX8_count_0 : decode cX8_count 0 = .ok (.iload_n 1, 1) := by decide +kernel
theorem dX8_count_1 : decode cX8_count 1 = .ok (.tableswitch 99 0 6 #[43, 51, 59, 67, 75, 83, 91], 43) := by decide +kernel
theorem dX8_count_44 : decode cX8_count 44 = .ok (.aload_n 0, 1) := by decide +kernel
theorem dX8_count_45 : decode cX8_count 45 = .ok (.getfield 26, 3) := by decide +kernel
theorem dX8_count_48 : decode cX8_count 48 = .ok (.getfield 96, 3) := by decide +kernel
theorem dX8_count_51 : decode cX8_count 51 = .ok (.ireturn, 1) := by decide +kernel
theorem dX8_count_52 : decode cX8_count 52 = .ok (.aload_n 0, 1) := by decide +kernel
theorem dX8_count_53 : decode cX8_count 53 = .ok (.getfield 26, 3) := by decide +kernel
theorem dX8_count_56 : decode cX8_count 56 = .ok (.getfield 266, 3) := by decide +kernel
theorem dX8_count_59 : decode cX8_count 59 = .ok (.ireturn, 1) := by decide +kernel
theorem dX8_count_60 : decode cX8_count 60 = .ok (.aload_n 0, 1) := by decide +kernel
theorem dX8_count_61 : decode cX8_count 61 = .ok (.getfield 36, 3) := by decide +kernel
theorem dX8_count_64 : decode cX8_count 64 = .ok (.getfield 146, 3) := by decide +kernel
theorem dX8_count_67 : decode cX8_count 67 = .ok (.ireturn, 1) := by decide +kernel
theorem dX8_count_68 : decode cX8_count 68 = .ok (.aload_n 0, 1) := by decide +kernel
theorem dX8_count_69 : decode cX8_count 69 = .ok (.getfield 54, 3) := by decide +kernel
theorem dX8_count_72 : decode cX8_count 72 = .ok (.getfield 185, 3) := by decide +kernel
theorem dX8_count_75 : decode cX8_count 75 = .ok (.ireturn, 1) := by decide +kernel
theorem dX8_count_76 : decode cX8_count 76 = .ok (.aload_n 0, 1) := by decide +kernel
theorem dX8_count_77 : decode cX8_count 77 = .ok (.getfield 68, 3) := by decide +kernel
theorem dX8_count_80 : decode cX8_count 80 = .ok (.getfield 242, 3) := by decide +kernel
theorem dX8_count_83 : decode cX8_count 83 = .ok (.ireturn, 1) := by decide +kernel
theorem dX8_count_84 : decode cX8_count 84 = .ok (.aload_n 0, 1) := by decide +kernel
theorem dX8_count_85 : decode cX8_count 85 = .ok (.getfield 36, 3) := by decide +kernel
theorem dX8_count_88 : decode cX8_count 88 = .ok (.getfield 143, 3) := by decide +kernel
theorem dX8_count_91 : decode cX8_count 91 = .ok (.ireturn, 1) := by decide +kernel
theorem dX8_count_92 : decode cX8_count 92 = .ok (.aload_n 0, 1) := by decide +kernel
theorem dX8_count_93 : decode cX8_count 93 = .ok (.getfield 12, 3) := by decide +kernel
theorem dX8_count_96 : decode cX8_count 96 = .ok (.getfield 76, 3) := by decide +kernel
theorem dX8_count_99 : decode cX8_count 99 = .ok (.ireturn, 1) := by decide +kernel
theorem dX8_count_100 : decode cX8_count 100 = .ok (.bipush (-2), 2) := by decide +kernel
theorem dX8_count_102 : decode cX8_count 102 = .ok (.ireturn, 1) := by decide +kernel
theorem dX8_within_0 : decode cX8_within 0 = .ok (.iload_n 0, 1) := by decide +kernel
theorem dX8_within_1 : decode cX8_within 1 = .ok (.iload_n 1, 1) := by decide +kernel
theorem dX8_within_2 : decode cX8_within 2 = .ok (.if_icmp .lt 12, 3) := by decide +kernel
theorem dX8_within_5 : decode cX8_within 5 = .ok (.iload_n 0, 1) := by decide +kernel
theorem dX8_within_6 : decode cX8_within 6 = .ok (.iload_n 2, 1) := by decide +kernel
theorem dX8_within_7 : decode cX8_within 7 = .ok (.if_icmp .gt 7, 3) := by decide +kernel
theorem dX8_within_10 : decode cX8_within 10 = .ok (.iconst 1, 1) := by decide +kernel
theorem dX8_within_11 : decode cX8_within 11 = .ok (.goto 4, 3) := by decide +kernel
theorem dX8_within_14 : decode cX8_within 14 = .ok (.iconst 0, 1) := by decide +kernel
theorem dX8_within_15 : decode cX8_within 15 = .ok (.ireturn, 1) := by decide +kernel
theorem dX8_mayValue_0 : decode cX8_mayValue 0 = .ok (.iload_n 0, 1) := by decide +kernel
theorem dX8_mayValue_1 : decode cX8_mayValue 1 = .ok (.iconst 1, 1) := by decide +kernel
theorem dX8_mayValue_2 : decode cX8_mayValue 2 = .ok (.bipush 99, 2) := by decide +kernel
theorem dX8_mayValue_4 : decode cX8_mayValue 4 = .ok (.invokestatic 72, 3) := by decide +kernel
theorem dX8_mayValue_7 : decode cX8_mayValue 7 = .ok (.ifCond .eq 17, 3) := by decide +kernel
theorem dX8_mayValue_10 : decode cX8_mayValue 10 = .ok (.iload_n 1, 1) := by decide +kernel
theorem dX8_mayValue_11 : decode cX8_mayValue 11 = .ok (.iconst 0, 1) := by decide +kernel
theorem dX8_mayValue_12 : decode cX8_mayValue 12 = .ok (.bipush 9, 2) := by decide +kernel
theorem dX8_mayValue_14 : decode cX8_mayValue 14 = .ok (.invokestatic 72, 3) := by decide +kernel
theorem dX8_mayValue_17 : decode cX8_mayValue 17 = .ok (.ifCond .eq 7, 3) := by decide +kernel
theorem dX8_mayValue_20 : decode cX8_mayValue 20 = .ok (.iconst 1, 1) := by decide +kernel
theorem dX8_mayValue_21 : decode cX8_mayValue 21 = .ok (.goto 4, 3) := by decide +kernel
theorem dX8_mayValue_24 : decode cX8_mayValue 24 = .ok (.iconst 0, 1) := by decide +kernel
theorem dX8_mayValue_25 : decode cX8_mayValue 25 = .ok (.ireturn, 1) := by decide +kernel
theorem dX8_inLeastTerms_0 : decode cX8_inLeastTerms 0 = .ok (.lload_n 0, 1) := by decide +kernel
theorem dX8_inLeastTerms_1 : decode cX8_inLeastTerms 1 = .ok (.lstore 5, 2) := by decide +kernel
theorem dX8_inLeastTerms_3 : decode cX8_inLeastTerms 3 = .ok (.lload_n 2, 1) := by decide +kernel
theorem dX8_inLeastTerms_4 : decode cX8_inLeastTerms 4 = .ok (.lstore 7, 2) := by decide +kernel
theorem dX8_inLeastTerms_6 : decode cX8_inLeastTerms 6 = .ok (.iconst 0, 1) := by decide +kernel
theorem dX8_inLeastTerms_7 : decode cX8_inLeastTerms 7 = .ok (.istore 9, 2) := by decide +kernel
theorem dX8_inLeastTerms_9 : decode cX8_inLeastTerms 9 = .ok (.iload 9, 2) := by decide +kernel
theorem dX8_inLeastTerms_11 : decode cX8_inLeastTerms 11 = .ok (.bipush 100, 2) := by decide +kernel
theorem dX8_inLeastTerms_13 : decode cX8_inLeastTerms 13 = .ok (.if_icmp .ge 31, 3) := by decide +kernel
theorem dX8_inLeastTerms_16 : decode cX8_inLeastTerms 16 = .ok (.lload 7, 2) := by decide +kernel
theorem dX8_inLeastTerms_18 : decode cX8_inLeastTerms 18 = .ok (.lconst 0, 1) := by decide +kernel
theorem dX8_inLeastTerms_19 : decode cX8_inLeastTerms 19 = .ok (.lcmp, 1) := by decide +kernel
theorem dX8_inLeastTerms_20 : decode cX8_inLeastTerms 20 = .ok (.ifCond .eq 24, 3) := by decide +kernel
theorem dX8_inLeastTerms_23 : decode cX8_inLeastTerms 23 = .ok (.lload 5, 2) := by decide +kernel
theorem dX8_inLeastTerms_25 : decode cX8_inLeastTerms 25 = .ok (.lload 7, 2) := by decide +kernel
theorem dX8_inLeastTerms_27 : decode cX8_inLeastTerms 27 = .ok (.lrem, 1) := by decide +kernel
theorem dX8_inLeastTerms_28 : decode cX8_inLeastTerms 28 = .ok (.lstore 10, 2) := by decide +kernel
theorem dX8_inLeastTerms_30 : decode cX8_inLeastTerms 30 = .ok (.lload 7, 2) := by decide +kernel
theorem dX8_inLeastTerms_32 : decode cX8_inLeastTerms 32 = .ok (.lstore 5, 2) := by decide +kernel
theorem dX8_inLeastTerms_34 : decode cX8_inLeastTerms 34 = .ok (.lload 10, 2) := by decide +kernel
theorem dX8_inLeastTerms_36 : decode cX8_inLeastTerms 36 = .ok (.lstore 7, 2) := by decide +kernel
theorem dX8_inLeastTerms_38 : decode cX8_inLeastTerms 38 = .ok (.iinc 9 1, 3) := by decide +kernel
theorem dX8_inLeastTerms_41 : decode cX8_inLeastTerms 41 = .ok (.goto (-32), 3) := by decide +kernel
theorem dX8_inLeastTerms_44 : decode cX8_inLeastTerms 44 = .ok (.iload 4, 2) := by decide +kernel
theorem dX8_inLeastTerms_46 : decode cX8_inLeastTerms 46 = .ok (.ifCond .eq 7, 3) := by decide +kernel
theorem dX8_inLeastTerms_49 : decode cX8_inLeastTerms 49 = .ok (.lload_n 0, 1) := by decide +kernel
theorem dX8_inLeastTerms_50 : decode cX8_inLeastTerms 50 = .ok (.goto 4, 3) := by decide +kernel
theorem dX8_inLeastTerms_53 : decode cX8_inLeastTerms 53 = .ok (.lload_n 2, 1) := by decide +kernel
theorem dX8_inLeastTerms_54 : decode cX8_inLeastTerms 54 = .ok (.lstore 9, 2) := by decide +kernel
theorem dX8_inLeastTerms_56 : decode cX8_inLeastTerms 56 = .ok (.lload 5, 2) := by decide +kernel
theorem dX8_inLeastTerms_58 : decode cX8_inLeastTerms 58 = .ok (.lconst 0, 1) := by decide +kernel
theorem dX8_inLeastTerms_59 : decode cX8_inLeastTerms 59 = .ok (.lcmp, 1) := by decide +kernel
theorem dX8_inLeastTerms_60 : decode cX8_inLeastTerms 60 = .ok (.ifCond .ne 8, 3) := by decide +kernel
theorem dX8_inLeastTerms_63 : decode cX8_inLeastTerms 63 = .ok (.lload 9, 2) := by decide +kernel
theorem dX8_inLeastTerms_65 : decode cX8_inLeastTerms 65 = .ok (.goto 8, 3) := by decide +kernel
theorem dX8_inLeastTerms_68 : decode cX8_inLeastTerms 68 = .ok (.lload 9, 2) := by decide +kernel
theorem dX8_inLeastTerms_70 : decode cX8_inLeastTerms 70 = .ok (.lload 5, 2) := by decide +kernel
theorem dX8_inLeastTerms_72 : decode cX8_inLeastTerms 72 = .ok (.ldiv, 1) := by decide +kernel
theorem dX8_inLeastTerms_73 : decode cX8_inLeastTerms 73 = .ok (.lreturn, 1) := by decide +kernel
theorem dX8_spentBy_0 : decode cX8_spentBy 0 = .ok (.iconst 0, 1) := by decide +kernel
theorem dX8_spentBy_1 : decode cX8_spentBy 1 = .ok (.istore_n 2, 1) := by decide +kernel
theorem dX8_spentBy_2 : decode cX8_spentBy 2 = .ok (.iconst 0, 1) := by decide +kernel
theorem dX8_spentBy_3 : decode cX8_spentBy 3 = .ok (.istore_n 3, 1) := by decide +kernel
theorem dX8_spentBy_4 : decode cX8_spentBy 4 = .ok (.iload_n 3, 1) := by decide +kernel
theorem dX8_spentBy_5 : decode cX8_spentBy 5 = .ok (.aload_n 0, 1) := by decide +kernel
theorem dX8_spentBy_6 : decode cX8_spentBy 6 = .ok (.getfield 36, 3) := by decide +kernel
theorem dX8_spentBy_9 : decode cX8_spentBy 9 = .ok (.getfield 146, 3) := by decide +kernel
theorem dX8_spentBy_12 : decode cX8_spentBy 12 = .ok (.if_icmp .ge 52, 3) := by decide +kernel
theorem dX8_spentBy_15 : decode cX8_spentBy 15 = .ok (.aload_n 0, 1) := by decide +kernel
theorem dX8_spentBy_16 : decode cX8_spentBy 16 = .ok (.getfield 36, 3) := by decide +kernel
theorem dX8_spentBy_19 : decode cX8_spentBy 19 = .ok (.getfield 156, 3) := by decide +kernel
theorem dX8_spentBy_22 : decode cX8_spentBy 22 = .ok (.iload_n 3, 1) := by decide +kernel
theorem dX8_spentBy_23 : decode cX8_spentBy 23 = .ok (.iaload, 1) := by decide +kernel
theorem dX8_spentBy_24 : decode cX8_spentBy 24 = .ok (.iload_n 1, 1) := by decide +kernel
theorem dX8_spentBy_25 : decode cX8_spentBy 25 = .ok (.if_icmp .ne 33, 3) := by decide +kernel
theorem dX8_spentBy_28 : decode cX8_spentBy 28 = .ok (.iload_n 2, 1) := by decide +kernel
theorem dX8_spentBy_29 : decode cX8_spentBy 29 = .ok (.aload_n 0, 1) := by decide +kernel
theorem dX8_spentBy_30 : decode cX8_spentBy 30 = .ok (.getfield 36, 3) := by decide +kernel
theorem dX8_spentBy_33 : decode cX8_spentBy 33 = .ok (.getfield 162, 3) := by decide +kernel
theorem dX8_spentBy_36 : decode cX8_spentBy 36 = .ok (.iload_n 3, 1) := by decide +kernel
theorem dX8_spentBy_37 : decode cX8_spentBy 37 = .ok (.iaload, 1) := by decide +kernel
theorem dX8_spentBy_38 : decode cX8_spentBy 38 = .ok (.aload_n 0, 1) := by decide +kernel
theorem dX8_spentBy_39 : decode cX8_spentBy 39 = .ok (.getfield 26, 3) := by decide +kernel
theorem dX8_spentBy_42 : decode cX8_spentBy 42 = .ok (.getfield 126, 3) := by decide +kernel
theorem dX8_spentBy_45 : decode cX8_spentBy 45 = .ok (.aload_n 0, 1) := by decide +kernel
theorem dX8_spentBy_46 : decode cX8_spentBy 46 = .ok (.getfield 36, 3) := by decide +kernel
theorem dX8_spentBy_49 : decode cX8_spentBy 49 = .ok (.getfield 159, 3) := by decide +kernel
theorem dX8_spentBy_52 : decode cX8_spentBy 52 = .ok (.iload_n 3, 1) := by decide +kernel
theorem dX8_spentBy_53 : decode cX8_spentBy 53 = .ok (.iaload, 1) := by decide +kernel
theorem dX8_spentBy_54 : decode cX8_spentBy 54 = .ok (.iaload, 1) := by decide +kernel
theorem dX8_spentBy_55 : decode cX8_spentBy 55 = .ok (.imul, 1) := by decide +kernel
theorem dX8_spentBy_56 : decode cX8_spentBy 56 = .ok (.iadd, 1) := by decide +kernel
theorem dX8_spentBy_57 : decode cX8_spentBy 57 = .ok (.istore_n 2, 1) := by decide +kernel
theorem dX8_spentBy_58 : decode cX8_spentBy 58 = .ok (.iinc 3 1, 3) := by decide +kernel
theorem dX8_spentBy_61 : decode cX8_spentBy 61 = .ok (.goto (-57), 3) := by decide +kernel
theorem dX8_spentBy_64 : decode cX8_spentBy 64 = .ok (.iload_n 2, 1) := by decide +kernel
theorem dX8_spentBy_65 : decode cX8_spentBy 65 = .ok (.ireturn, 1) := by decide +kernel
theorem dX8_gotBy_0 : decode cX8_gotBy 0 = .ok (.iconst 0, 1) := by decide +kernel
theorem dX8_gotBy_1 : decode cX8_gotBy 1 = .ok (.istore_n 2, 1) := by decide +kernel
theorem dX8_gotBy_2 : decode cX8_gotBy 2 = .ok (.iconst 0, 1) := by decide +kernel
theorem dX8_gotBy_3 : decode cX8_gotBy 3 = .ok (.istore_n 3, 1) := by decide +kernel
theorem dX8_gotBy_4 : decode cX8_gotBy 4 = .ok (.iload_n 3, 1) := by decide +kernel
theorem dX8_gotBy_5 : decode cX8_gotBy 5 = .ok (.aload_n 0, 1) := by decide +kernel
theorem dX8_gotBy_6 : decode cX8_gotBy 6 = .ok (.getfield 36, 3) := by decide +kernel
theorem dX8_gotBy_9 : decode cX8_gotBy 9 = .ok (.getfield 146, 3) := by decide +kernel
theorem dX8_gotBy_12 : decode cX8_gotBy 12 = .ok (.if_icmp .ge 34, 3) := by decide +kernel
theorem dX8_gotBy_15 : decode cX8_gotBy 15 = .ok (.aload_n 0, 1) := by decide +kernel
theorem dX8_gotBy_16 : decode cX8_gotBy 16 = .ok (.getfield 36, 3) := by decide +kernel
theorem dX8_gotBy_19 : decode cX8_gotBy 19 = .ok (.getfield 156, 3) := by decide +kernel
theorem dX8_gotBy_22 : decode cX8_gotBy 22 = .ok (.iload_n 3, 1) := by decide +kernel
theorem dX8_gotBy_23 : decode cX8_gotBy 23 = .ok (.iaload, 1) := by decide +kernel
theorem dX8_gotBy_24 : decode cX8_gotBy 24 = .ok (.iload_n 1, 1) := by decide +kernel
theorem dX8_gotBy_25 : decode cX8_gotBy 25 = .ok (.if_icmp .ne 15, 3) := by decide +kernel
theorem dX8_gotBy_28 : decode cX8_gotBy 28 = .ok (.iload_n 2, 1) := by decide +kernel
theorem dX8_gotBy_29 : decode cX8_gotBy 29 = .ok (.aload_n 0, 1) := by decide +kernel
theorem dX8_gotBy_30 : decode cX8_gotBy 30 = .ok (.getfield 36, 3) := by decide +kernel
theorem dX8_gotBy_33 : decode cX8_gotBy 33 = .ok (.getfield 165, 3) := by decide +kernel
theorem dX8_gotBy_36 : decode cX8_gotBy 36 = .ok (.iload_n 3, 1) := by decide +kernel
theorem dX8_gotBy_37 : decode cX8_gotBy 37 = .ok (.iaload, 1) := by decide +kernel
theorem dX8_gotBy_38 : decode cX8_gotBy 38 = .ok (.iadd, 1) := by decide +kernel
theorem dX8_gotBy_39 : decode cX8_gotBy 39 = .ok (.istore_n 2, 1) := by decide +kernel
theorem dX8_gotBy_40 : decode cX8_gotBy 40 = .ok (.iinc 3 1, 3) := by decide +kernel
theorem dX8_gotBy_43 : decode cX8_gotBy 43 = .ok (.goto (-39), 3) := by decide +kernel
theorem dX8_gotBy_46 : decode cX8_gotBy 46 = .ok (.iload_n 2, 1) := by decide +kernel
theorem dX8_gotBy_47 : decode cX8_gotBy 47 = .ok (.ireturn, 1) := by decide +kernel
theorem dX8_broughtBy_0 : decode cX8_broughtBy 0 = .ok (.iconst 0, 1) := by decide +kernel
theorem dX8_broughtBy_1 : decode cX8_broughtBy 1 = .ok (.istore 4, 2) := by decide +kernel
theorem dX8_broughtBy_3 : decode cX8_broughtBy 3 = .ok (.iconst 0, 1) := by decide +kernel
theorem dX8_broughtBy_4 : decode cX8_broughtBy 4 = .ok (.istore 5, 2) := by decide +kernel
theorem dX8_broughtBy_6 : decode cX8_broughtBy 6 = .ok (.iload 5, 2) := by decide +kernel
theorem dX8_broughtBy_8 : decode cX8_broughtBy 8 = .ok (.aload_n 0, 1) := by decide +kernel
theorem dX8_broughtBy_9 : decode cX8_broughtBy 9 = .ok (.getfield 26, 3) := by decide +kernel
theorem dX8_broughtBy_12 : decode cX8_broughtBy 12 = .ok (.getfield 96, 3) := by decide +kernel
theorem dX8_broughtBy_15 : decode cX8_broughtBy 15 = .ok (.if_icmp .ge 55, 3) := by decide +kernel
theorem dX8_broughtBy_18 : decode cX8_broughtBy 18 = .ok (.iload_n 1, 1) := by decide +kernel
theorem dX8_broughtBy_19 : decode cX8_broughtBy 19 = .ok (.iload_n 2, 1) := by decide +kernel
theorem dX8_broughtBy_20 : decode cX8_broughtBy 20 = .ok (.aload_n 0, 1) := by decide +kernel
theorem dX8_broughtBy_21 : decode cX8_broughtBy 21 = .ok (.getfield 36, 3) := by decide +kernel
theorem dX8_broughtBy_24 : decode cX8_broughtBy 24 = .ok (.getfield 103, 3) := by decide +kernel
theorem dX8_broughtBy_27 : decode cX8_broughtBy 27 = .ok (.iload 5, 2) := by decide +kernel
theorem dX8_broughtBy_29 : decode cX8_broughtBy 29 = .ok (.iaload, 1) := by decide +kernel
theorem dX8_broughtBy_30 : decode cX8_broughtBy 30 = .ok (.imul, 1) := by decide +kernel
theorem dX8_broughtBy_31 : decode cX8_broughtBy 31 = .ok (.if_icmp .gt 33, 3) := by decide +kernel
theorem dX8_broughtBy_34 : decode cX8_broughtBy 34 = .ok (.iload 4, 2) := by decide +kernel
theorem dX8_broughtBy_36 : decode cX8_broughtBy 36 = .ok (.aload_n 0, 1) := by decide +kernel
theorem dX8_broughtBy_37 : decode cX8_broughtBy 37 = .ok (.getfield 26, 3) := by decide +kernel
theorem dX8_broughtBy_40 : decode cX8_broughtBy 40 = .ok (.getfield 117, 3) := by decide +kernel
theorem dX8_broughtBy_43 : decode cX8_broughtBy 43 = .ok (.iload 5, 2) := by decide +kernel
theorem dX8_broughtBy_45 : decode cX8_broughtBy 45 = .ok (.iaload, 1) := by decide +kernel
theorem dX8_broughtBy_46 : decode cX8_broughtBy 46 = .ok (.iload_n 1, 1) := by decide +kernel
theorem dX8_broughtBy_47 : decode cX8_broughtBy 47 = .ok (.iload_n 3, 1) := by decide +kernel
theorem dX8_broughtBy_48 : decode cX8_broughtBy 48 = .ok (.aload_n 0, 1) := by decide +kernel
theorem dX8_broughtBy_49 : decode cX8_broughtBy 49 = .ok (.getfield 36, 3) := by decide +kernel
theorem dX8_broughtBy_52 : decode cX8_broughtBy 52 = .ok (.getfield 103, 3) := by decide +kernel
theorem dX8_broughtBy_55 : decode cX8_broughtBy 55 = .ok (.iload 5, 2) := by decide +kernel
theorem dX8_broughtBy_57 : decode cX8_broughtBy 57 = .ok (.iaload, 1) := by decide +kernel
theorem dX8_broughtBy_58 : decode cX8_broughtBy 58 = .ok (.imul, 1) := by decide +kernel
theorem dX8_broughtBy_59 : decode cX8_broughtBy 59 = .ok (.isub, 1) := by decide +kernel
theorem dX8_broughtBy_60 : decode cX8_broughtBy 60 = .ok (.imul, 1) := by decide +kernel
theorem dX8_broughtBy_61 : decode cX8_broughtBy 61 = .ok (.iadd, 1) := by decide +kernel
theorem dX8_broughtBy_62 : decode cX8_broughtBy 62 = .ok (.istore 4, 2) := by decide +kernel
theorem dX8_broughtBy_64 : decode cX8_broughtBy 64 = .ok (.iinc 5 1, 3) := by decide +kernel
theorem dX8_broughtBy_67 : decode cX8_broughtBy 67 = .ok (.goto (-61), 3) := by decide +kernel
theorem dX8_broughtBy_70 : decode cX8_broughtBy 70 = .ok (.iload 4, 2) := by decide +kernel
theorem dX8_broughtBy_72 : decode cX8_broughtBy 72 = .ok (.ireturn, 1) := by decide +kernel
theorem dX8_losersBy_0 : decode cX8_losersBy 0 = .ok (.iconst 0, 1) := by decide +kernel
theorem dX8_losersBy_1 : decode cX8_losersBy 1 = .ok (.istore_n 2, 1) := by decide +kernel
theorem dX8_losersBy_2 : decode cX8_losersBy 2 = .ok (.iconst 0, 1) := by decide +kernel
theorem dX8_losersBy_3 : decode cX8_losersBy 3 = .ok (.istore_n 3, 1) := by decide +kernel
theorem dX8_losersBy_4 : decode cX8_losersBy 4 = .ok (.iload_n 3, 1) := by decide +kernel
theorem dX8_losersBy_5 : decode cX8_losersBy 5 = .ok (.aload_n 0, 1) := by decide +kernel
theorem dX8_losersBy_6 : decode cX8_losersBy 6 = .ok (.getfield 26, 3) := by decide +kernel
theorem dX8_losersBy_9 : decode cX8_losersBy 9 = .ok (.getfield 96, 3) := by decide +kernel
theorem dX8_losersBy_12 : decode cX8_losersBy 12 = .ok (.if_icmp .ge 69, 3) := by decide +kernel
theorem dX8_losersBy_15 : decode cX8_losersBy 15 = .ok (.aload_n 0, 1) := by decide +kernel
theorem dX8_losersBy_16 : decode cX8_losersBy 16 = .ok (.getfield 26, 3) := by decide +kernel
theorem dX8_losersBy_19 : decode cX8_losersBy 19 = .ok (.iload_n 3, 1) := by decide +kernel
theorem dX8_losersBy_20 : decode cX8_losersBy 20 = .ok (.invokevirtual 120, 3) := by decide +kernel
theorem dX8_losersBy_23 : decode cX8_losersBy 23 = .ok (.ifCond .eq 24, 3) := by decide +kernel
theorem dX8_losersBy_26 : decode cX8_losersBy 26 = .ok (.iload_n 1, 1) := by decide +kernel
theorem dX8_losersBy_27 : decode cX8_losersBy 27 = .ok (.aload_n 0, 1) := by decide +kernel
theorem dX8_losersBy_28 : decode cX8_losersBy 28 = .ok (.getfield 36, 3) := by decide +kernel
theorem dX8_losersBy_31 : decode cX8_losersBy 31 = .ok (.getfield 103, 3) := by decide +kernel
theorem dX8_losersBy_34 : decode cX8_losersBy 34 = .ok (.iload_n 3, 1) := by decide +kernel
theorem dX8_losersBy_35 : decode cX8_losersBy 35 = .ok (.iaload, 1) := by decide +kernel
theorem dX8_losersBy_36 : decode cX8_losersBy 36 = .ok (.if_icmp .le 7, 3) := by decide +kernel
theorem dX8_losersBy_39 : decode cX8_losersBy 39 = .ok (.iconst 1, 1) := by decide +kernel
theorem dX8_losersBy_40 : decode cX8_losersBy 40 = .ok (.goto 25, 3) := by decide +kernel
theorem dX8_losersBy_43 : decode cX8_losersBy 43 = .ok (.iconst 0, 1) := by decide +kernel
theorem dX8_losersBy_44 : decode cX8_losersBy 44 = .ok (.goto 21, 3) := by decide +kernel
theorem dX8_losersBy_47 : decode cX8_losersBy 47 = .ok (.iload_n 1, 1) := by decide +kernel
theorem dX8_losersBy_48 : decode cX8_losersBy 48 = .ok (.aload_n 0, 1) := by decide +kernel
theorem dX8_losersBy_49 : decode cX8_losersBy 49 = .ok (.getfield 36, 3) := by decide +kernel
theorem dX8_losersBy_52 : decode cX8_losersBy 52 = .ok (.getfield 103, 3) := by decide +kernel
theorem dX8_losersBy_55 : decode cX8_losersBy 55 = .ok (.iload_n 3, 1) := by decide +kernel
theorem dX8_losersBy_56 : decode cX8_losersBy 56 = .ok (.iaload, 1) := by decide +kernel
theorem dX8_losersBy_57 : decode cX8_losersBy 57 = .ok (.if_icmp .ge 7, 3) := by decide +kernel
theorem dX8_losersBy_60 : decode cX8_losersBy 60 = .ok (.iconst 1, 1) := by decide +kernel
theorem dX8_losersBy_61 : decode cX8_losersBy 61 = .ok (.goto 4, 3) := by decide +kernel
theorem dX8_losersBy_64 : decode cX8_losersBy 64 = .ok (.iconst 0, 1) := by decide +kernel
theorem dX8_losersBy_65 : decode cX8_losersBy 65 = .ok (.istore 4, 2) := by decide +kernel
theorem dX8_losersBy_67 : decode cX8_losersBy 67 = .ok (.iload 4, 2) := by decide +kernel
theorem dX8_losersBy_69 : decode cX8_losersBy 69 = .ok (.ifCond .eq 6, 3) := by decide +kernel
theorem dX8_losersBy_72 : decode cX8_losersBy 72 = .ok (.iinc 2 1, 3) := by decide +kernel
theorem dX8_losersBy_75 : decode cX8_losersBy 75 = .ok (.iinc 3 1, 3) := by decide +kernel
theorem dX8_losersBy_78 : decode cX8_losersBy 78 = .ok (.goto (-74), 3) := by decide +kernel
theorem dX8_losersBy_81 : decode cX8_losersBy 81 = .ok (.iload_n 2, 1) := by decide +kernel
theorem dX8_losersBy_82 : decode cX8_losersBy 82 = .ok (.ireturn, 1) := by decide +kernel
end
section
theorem dX9_init_0 : decode cX9_init 0 = .ok (.aload_n 0, 1) := by decide +kernel
theorem dX9_init_1 : decode cX9_init 1 = .ok (.invokespecial 1, 3) := by decide +kernel
theorem dX9_init_4 : decode cX9_init 4 = .ok (.aload_n 0, 1) := by decide +kernel
theorem dX9_init_5 : decode cX9_init 5 = .ok (.bipush 72, 2) := by decide +kernel
theorem dX9_init_7 : decode cX9_init 7 = .ok (.newarray .int, 2) := by decide +kernel
theorem dX9_init_9 : decode cX9_init 9 = .ok (.putfield 7, 3) := by decide +kernel
theorem dX9_init_12 : decode cX9_init 12 = .ok (.aload_n 0, 1) := by decide +kernel
theorem dX9_init_13 : decode cX9_init 13 = .ok (.bipush 6, 2) := by decide +kernel
theorem dX9_init_15 : decode cX9_init 15 = .ok (.newarray .int, 2) := by decide +kernel
theorem dX9_init_17 : decode cX9_init 17 = .ok (.putfield 13, 3) := by decide +kernel
theorem dX9_init_20 : decode cX9_init 20 = .ok (.aload_n 0, 1) := by decide +kernel
theorem dX9_init_21 : decode cX9_init 21 = .ok (.bipush 6, 2) := by decide +kernel
theorem dX9_init_23 : decode cX9_init 23 = .ok (.newarray .int, 2) := by decide +kernel
theorem dX9_init_25 : decode cX9_init 25 = .ok (.putfield 16, 3) := by decide +kernel
theorem dX9_init_28 : decode cX9_init 28 = .ok (.aload_n 0, 1) := by decide +kernel
theorem dX9_init_29 : decode cX9_init 29 = .ok (.iconst 4, 1) := by decide +kernel
theorem dX9_init_30 : decode cX9_init 30 = .ok (.newarray .int, 2) := by decide +kernel
theorem dX9_init_32 : decode cX9_init 32 = .ok (.putfield 19, 3) := by decide +kernel
theorem dX9_init_35 : decode cX9_init 35 = .ok (.aload_n 0, 1) := by decide +kernel
theorem dX9_init_36 : decode cX9_init 36 = .ok (.iconst 4, 1) := by decide +kernel
theorem dX9_init_37 : decode cX9_init 37 = .ok (.newarray .int, 2) := by decide +kernel
theorem dX9_init_39 : decode cX9_init 39 = .ok (.putfield 22, 3) := by decide +kernel
theorem dX9_init_42 : decode cX9_init 42 = .ok (.aload_n 0, 1) := by decide +kernel
theorem dX9_init_43 : decode cX9_init 43 = .ok (.bipush 24, 2) := by decide +kernel
theorem dX9_init_45 : decode cX9_init 45 = .ok (.newarray .boolean, 2) := by decide +kernel
theorem dX9_init_47 : decode cX9_init 47 = .ok (.putfield 25, 3) := by decide +kernel
theorem dX9_init_50 : decode cX9_init 50 = .ok (.aload_n 0, 1) := by decide +kernel
theorem dX9_init_51 : decode cX9_init 51 = .ok (.bipush 6, 2) := by decide +kernel
theorem dX9_init_53 : decode cX9_init 53 = .ok (.newarray .int, 2) := by decide +kernel
theorem dX9_init_55 : decode cX9_init 55 = .ok (.putfield 29, 3) := by decide +kernel
theorem dX9_init_58 : decode cX9_init 58 = .ok (.aload_n 0, 1) := by decide +kernel
theorem dX9_init_59 : decode cX9_init 59 = .ok (.bipush 6, 2) := by decide +kernel
theorem dX9_init_61 : decode cX9_init 61 = .ok (.newarray .boolean, 2) := by decide +kernel
theorem dX9_init_63 : decode cX9_init 63 = .ok (.putfield 32, 3) := by decide +kernel
theorem dX9_init_66 : decode cX9_init 66 = .ok (.aload_n 0, 1) := by decide +kernel
theorem dX9_init_67 : decode cX9_init 67 = .ok (.bipush 30, 2) := by decide +kernel
theorem dX9_init_69 : decode cX9_init 69 = .ok (.putfield 35, 3) := by decide +kernel
theorem dX9_init_72 : decode cX9_init 72 = .ok (.aload_n 0, 1) := by decide +kernel
theorem dX9_init_73 : decode cX9_init 73 = .ok (.bipush 6, 2) := by decide +kernel
theorem dX9_init_75 : decode cX9_init 75 = .ok (.newarray .int, 2) := by decide +kernel
theorem dX9_init_77 : decode cX9_init 77 = .ok (.putfield 39, 3) := by decide +kernel
theorem dX9_init_80 : decode cX9_init 80 = .ok (.aload_n 0, 1) := by decide +kernel
theorem dX9_init_81 : decode cX9_init 81 = .ok (.bipush 6, 2) := by decide +kernel
theorem dX9_init_83 : decode cX9_init 83 = .ok (.newarray .int, 2) := by decide +kernel
theorem dX9_init_85 : decode cX9_init 85 = .ok (.putfield 42, 3) := by decide +kernel
theorem dX9_init_88 : decode cX9_init 88 = .ok (.aload_n 0, 1) := by decide +kernel
theorem dX9_init_89 : decode cX9_init 89 = .ok (.iconst 4, 1) := by decide +kernel
theorem dX9_init_90 : decode cX9_init 90 = .ok (.newarray .int, 2) := by decide +kernel
theorem dX9_init_92 : decode cX9_init 92 = .ok (.putfield 45, 3) := by decide +kernel
theorem dX9_init_95 : decode cX9_init 95 = .ok (.aload_n 0, 1) := by decide +kernel
theorem dX9_init_96 : decode cX9_init 96 = .ok (.iconst 4, 1) := by decide +kernel
theorem dX9_init_97 : decode cX9_init 97 = .ok (.newarray .int, 2) := by decide +kernel
theorem dX9_init_99 : decode cX9_init 99 = .ok (.putfield 48, 3) := by decide +kernel
theorem dX9_init_102 : decode cX9_init 102 = .ok (.aload_n 0, 1) := by decide +kernel
theorem dX9_init_103 : decode cX9_init 103 = .ok (.bipush 24, 2) := by decide +kernel
theorem dX9_init_105 : decode cX9_init 105 = .ok (.newarray .boolean, 2) := by decide +kernel
theorem dX9_init_107 : decode cX9_init 107 = .ok (.putfield 51, 3) := by decide +kernel
theorem dX9_init_110 : decode cX9_init 110 = .ok (.aload_n 0, 1) := by decide +kernel
theorem dX9_init_111 : decode cX9_init 111 = .ok (.bipush 12, 2) := by decide +kernel
theorem dX9_init_113 : decode cX9_init 113 = .ok (.newarray .int, 2) := by decide +kernel
theorem dX9_init_115 : decode cX9_init 115 = .ok (.putfield 54, 3) := by decide +kernel
theorem dX9_init_118 : decode cX9_init 118 = .ok (.aload_n 0, 1) := by decide +kernel
theorem dX9_init_119 : decode cX9_init 119 = .ok (.bipush 12, 2) := by decide +kernel
theorem dX9_init_121 : decode cX9_init 121 = .ok (.newarray .int, 2) := by decide +kernel
theorem dX9_init_123 : decode cX9_init 123 = .ok (.putfield 57, 3) := by decide +kernel
theorem dX9_init_126 : decode cX9_init 126 = .ok (.aload_n 0, 1) := by decide +kernel
theorem dX9_init_127 : decode cX9_init 127 = .ok (.bipush 12, 2) := by decide +kernel
theorem dX9_init_129 : decode cX9_init 129 = .ok (.newarray .int, 2) := by decide +kernel
theorem dX9_init_131 : decode cX9_init 131 = .ok (.putfield 60, 3) := by decide +kernel
theorem dX9_init_134 : decode cX9_init 134 = .ok (.aload_n 0, 1) := by decide +kernel
theorem dX9_init_135 : decode cX9_init 135 = .ok (.bipush 12, 2) := by decide +kernel
theorem dX9_init_137 : decode cX9_init 137 = .ok (.newarray .int, 2) := by decide +kernel
theorem dX9_init_139 : decode cX9_init 139 = .ok (.putfield 63, 3) := by decide +kernel
theorem dX9_init_142 : decode cX9_init 142 = .ok (.aload_n 0, 1) := by decide +kernel
theorem dX9_init_143 : decode cX9_init 143 = .ok (.bipush 8, 2) := by decide +kernel
theorem dX9_init_145 : decode cX9_init 145 = .ok (.newarray .int, 2) := by decide +kernel
theorem dX9_init_147 : decode cX9_init 147 = .ok (.putfield 66, 3) := by decide +kernel
theorem dX9_init_150 : decode cX9_init 150 = .ok (.aload_n 0, 1) := by decide +kernel
theorem dX9_init_151 : decode cX9_init 151 = .ok (.bipush 8, 2) := by decide +kernel
theorem dX9_init_153 : decode cX9_init 153 = .ok (.newarray .int, 2) := by decide +kernel
theorem dX9_init_155 : decode cX9_init 155 = .ok (.putfield 69, 3) := by decide +kernel
theorem dX9_init_158 : decode cX9_init 158 = .ok (.aload_n 0, 1) := by decide +kernel
theorem dX9_init_159 : decode cX9_init 159 = .ok (.bipush 8, 2) := by decide +kernel
theorem dX9_init_161 : decode cX9_init 161 = .ok (.newarray .int, 2) := by decide +kernel
theorem dX9_init_163 : decode cX9_init 163 = .ok (.putfield 72, 3) := by decide +kernel
theorem dX9_init_166 : decode cX9_init 166 = .ok (.aload_n 0, 1) := by decide +kernel
theorem dX9_init_167 : decode cX9_init 167 = .ok (.bipush 8, 2) := by decide +kernel
theorem dX9_init_169 : decode cX9_init 169 = .ok (.newarray .int, 2) := by decide +kernel
theorem dX9_init_171 : decode cX9_init 171 = .ok (.putfield 75, 3) := by decide +kernel
theorem dX9_init_174 : decode cX9_init 174 = .ok (.aload_n 0, 1) := by decide +kernel
theorem dX9_init_175 : decode cX9_init 175 = .ok (.bipush 8, 2) := by decide +kernel
theorem dX9_init_177 : decode cX9_init 177 = .ok (.newarray .int, 2) := by decide +kernel
theorem dX9_init_179 : decode cX9_init 179 = .ok (.putfield 78, 3) := by decide +kernel
theorem dX9_init_182 : decode cX9_init 182 = .ok (.aload_n 0, 1) := by decide +kernel
theorem dX9_init_183 : decode cX9_init 183 = .ok (.bipush 8, 2) := by decide +kernel
theorem dX9_init_185 : decode cX9_init 185 = .ok (.newarray .int, 2) := by decide +kernel
theorem dX9_init_187 : decode cX9_init 187 = .ok (.putfield 81, 3) := by decide +kernel
theorem dX9_init_190 : decode cX9_init 190 = .ok (.aload_n 0, 1) := by decide +kernel
theorem dX9_init_191 : decode cX9_init 191 = .ok (.bipush 8, 2) := by decide +kernel
theorem dX9_init_193 : decode cX9_init 193 = .ok (.newarray .int, 2) := by decide +kernel
theorem dX9_init_195 : decode cX9_init 195 = .ok (.putfield 84, 3) := by decide +kernel
theorem dX9_init_198 : decode cX9_init 198 = .ok (.aload_n 0, 1) := by decide +kernel
theorem dX9_init_199 : decode cX9_init 199 = .ok (.bipush 8, 2) := by decide +kernel
theorem dX9_init_201 : decode cX9_init 201 = .ok (.newarray .int, 2) := by decide +kernel
theorem dX9_init_203 : decode cX9_init 203 = .ok (.putfield 87, 3) := by decide +kernel
theorem dX9_init_206 : decode cX9_init 206 = .ok (.aload_n 0, 1) := by decide +kernel
theorem dX9_init_207 : decode cX9_init 207 = .ok (.bipush 8, 2) := by decide +kernel
theorem dX9_init_209 : decode cX9_init 209 = .ok (.newarray .int, 2) := by decide +kernel
theorem dX9_init_211 : decode cX9_init 211 = .ok (.putfield 90, 3) := by decide +kernel
theorem dX9_init_214 : decode cX9_init 214 = .ok (.aload_n 0, 1) := by decide +kernel
theorem dX9_init_215 : decode cX9_init 215 = .ok (.bipush 8, 2) := by decide +kernel
theorem dX9_init_217 : decode cX9_init 217 = .ok (.newarray .int, 2) := by decide +kernel
theorem dX9_init_219 : decode cX9_init 219 = .ok (.putfield 93, 3) := by decide +kernel
theorem dX9_init_222 : decode cX9_init 222 = .ok (.aload_n 0, 1) := by decide +kernel
theorem dX9_init_223 : decode cX9_init 223 = .ok (.bipush 120, 2) := by decide +kernel
theorem dX9_init_225 : decode cX9_init 225 = .ok (.newarray .int, 2) := by decide +kernel
theorem dX9_init_227 : decode cX9_init 227 = .ok (.putfield 96, 3) := by decide +kernel
theorem dX9_init_230 : decode cX9_init 230 = .ok (.aload_n 0, 1) := by decide +kernel
theorem dX9_init_231 : decode cX9_init 231 = .ok (.iconst 2, 1) := by decide +kernel
theorem dX9_init_232 : decode cX9_init 232 = .ok (.newarray .boolean, 2) := by decide +kernel
theorem dX9_init_234 : decode cX9_init 234 = .ok (.putfield 99, 3) := by decide +kernel
theorem dX9_init_237 : decode cX9_init 237 = .ok (.aload_n 0, 1) := by decide +kernel
theorem dX9_init_238 : decode cX9_init 238 = .ok (.sipush 7707, 3) := by decide +kernel
theorem dX9_init_241 : decode cX9_init 241 = .ok (.newarray .int, 2) := by decide +kernel
theorem dX9_init_243 : decode cX9_init 243 = .ok (.putfield 102, 3) := by decide +kernel
theorem dX9_init_246 : decode cX9_init 246 = .ok (.aload_n 0, 1) := by decide +kernel
theorem dX9_init_247 : decode cX9_init 247 = .ok (.bipush 6, 2) := by decide +kernel
theorem dX9_init_249 : decode cX9_init 249 = .ok (.newarray .int, 2) := by decide +kernel
theorem dX9_init_251 : decode cX9_init 251 = .ok (.putfield 105, 3) := by decide +kernel
theorem dX9_init_254 : decode cX9_init 254 = .ok (.aload_n 0, 1) := by decide +kernel
theorem dX9_init_255 : decode cX9_init 255 = .ok (.bipush 6, 2) := by decide +kernel
theorem dX9_init_257 : decode cX9_init 257 = .ok (.newarray .int, 2) := by decide +kernel
theorem dX9_init_259 : decode cX9_init 259 = .ok (.putfield 108, 3) := by decide +kernel
theorem dX9_init_262 : decode cX9_init 262 = .ok (.aload_n 0, 1) := by decide +kernel
theorem dX9_init_263 : decode cX9_init 263 = .ok (.iconst 3, 1) := by decide +kernel
theorem dX9_init_264 : decode cX9_init 264 = .ok (.newarray .int, 2) := by decide +kernel
theorem dX9_init_266 : decode cX9_init 266 = .ok (.putfield 111, 3) := by decide +kernel
theorem dX9_init_269 : decode cX9_init 269 = .ok (.aload_n 0, 1) := by decide +kernel
theorem dX9_init_270 : decode cX9_init 270 = .ok (.sipush 1000, 3) := by decide +kernel
theorem dX9_init_273 : decode cX9_init 273 = .ok (.newarray .int, 2) := by decide +kernel
theorem dX9_init_275 : decode cX9_init 275 = .ok (.putfield 114, 3) := by decide +kernel
theorem dX9_init_278 : decode cX9_init 278 = .ok (.return_, 1) := by decide +kernel
theorem dX9_in_0 : decode cX9_in 0 = .ok (.lload_n 0, 1) := by decide +kernel
theorem dX9_in_1 : decode cX9_in 1 = .ok (.lload_n 2, 1) := by decide +kernel
theorem dX9_in_2 : decode cX9_in 2 = .ok (.lcmp, 1) := by decide +kernel
theorem dX9_in_3 : decode cX9_in 3 = .ok (.ifCond .lt 14, 3) := by decide +kernel
theorem dX9_in_6 : decode cX9_in 6 = .ok (.lload_n 0, 1) := by decide +kernel
theorem dX9_in_7 : decode cX9_in 7 = .ok (.lload 4, 2) := by decide +kernel
theorem dX9_in_9 : decode cX9_in 9 = .ok (.lcmp, 1) := by decide +kernel
theorem dX9_in_10 : decode cX9_in 10 = .ok (.ifCond .gt 7, 3) := by decide +kernel
theorem dX9_in_13 : decode cX9_in 13 = .ok (.iconst 1, 1) := by decide +kernel
theorem dX9_in_14 : decode cX9_in 14 = .ok (.goto 4, 3) := by decide +kernel
theorem dX9_in_17 : decode cX9_in 17 = .ok (.iconst 0, 1) := by decide +kernel
theorem dX9_in_18 : decode cX9_in 18 = .ok (.ireturn, 1) := by decide +kernel
theorem dX9_has_0 : decode cX9_has 0 = .ok (.iload_n 0, 1) := by decide +kernel
theorem dX9_has_1 : decode cX9_has 1 = .ok (.iload_n 1, 1) := by decide +kernel
theorem dX9_has_2 : decode cX9_has 2 = .ok (.ishr, 1) := by decide +kernel
theorem dX9_has_3 : decode cX9_has 3 = .ok (.iconst 1, 1) := by decide +kernel
theorem dX9_has_4 : decode cX9_has 4 = .ok (.iand, 1) := by decide +kernel
theorem dX9_has_5 : decode cX9_has 5 = .ok (.iconst 1, 1) := by decide +kernel
theorem dX9_has_6 : decode cX9_has 6 = .ok (.if_icmp .ne 7, 3) := by decide +kernel
theorem dX9_has_9 : decode cX9_has 9 = .ok (.iconst 1, 1) := by decide +kernel
theorem dX9_has_10 : decode cX9_has 10 = .ok (.goto 4, 3) := by decide +kernel
theorem dX9_has_13 : decode cX9_has 13 = .ok (.iconst 0, 1) := by decide +kernel
theorem dX9_has_14 : decode cX9_has 14 = .ok (.ireturn, 1) := by decide +kernel
theorem dX9_noOne_0 : decode cX9_noOne 0 = .ok (.iload_n 1, 1) := by decide +kernel
theorem dX9_noOne_1 : decode cX9_noOne 1 = .ok (.i2l, 1) := by decide +kernel
theorem dX9_noOne_2 : decode cX9_noOne 2 = .ok (.lconst 0, 1) := by decide +kernel
theorem dX9_noOne_3 : decode cX9_noOne 3 = .ok (.aload_n 0, 1) := by decide +kernel
theorem dX9_noOne_4 : decode cX9_noOne 4 = .ok (.getfield 120, 3) := by decide +kernel
theorem dX9_noOne_7 : decode cX9_noOne 7 = .ok (.iconst 1, 1) := by decide +kernel
theorem dX9_noOne_8 : decode cX9_noOne 8 = .ok (.isub, 1) := by decide +kernel
theorem dX9_noOne_9 : decode cX9_noOne 9 = .ok (.i2l, 1) := by decide +kernel
theorem dX9_noOne_10 : decode cX9_noOne 10 = .ok (.invokestatic 123, 3) := by decide +kernel
theorem dX9_noOne_13 : decode cX9_noOne 13 = .ok (.ifCond .ne 7, 3) := by decide +kernel
theorem dX9_noOne_16 : decode cX9_noOne 16 = .ok (.iconst 1, 1) := by decide +kernel
theorem dX9_noOne_17 : decode cX9_noOne 17 = .ok (.goto 4, 3) := by decide +kernel
theorem dX9_noOne_20 : decode cX9_noOne 20 = .ok (.iconst 0, 1) := by decide +kernel
theorem dX9_noOne_21 : decode cX9_noOne 21 = .ok (.ireturn, 1) := by decide +kernel
theorem dX9_noCounter_0 : decode cX9_noCounter 0 = .ok (.iload_n 1, 1) := by decide +kernel
theorem dX9_noCounter_1 : decode cX9_noCounter 1 = .ok (.i2l, 1) := by decide +kernel
theorem dX9_noCounter_2 : decode cX9_noCounter 2 = .ok (.lconst 0, 1) := by decide +kernel
theorem dX9_noCounter_3 : decode cX9_noCounter 3 = .ok (.aload_n 0, 1) := by decide +kernel
theorem dX9_noCounter_4 : decode cX9_noCounter 4 = .ok (.getfield 127, 3) := by decide +kernel
theorem dX9_noCounter_7 : decode cX9_noCounter 7 = .ok (.iconst 1, 1) := by decide +kernel
theorem dX9_noCounter_8 : decode cX9_noCounter 8 = .ok (.isub, 1) := by decide +kernel
theorem dX9_noCounter_9 : decode cX9_noCounter 9 = .ok (.i2l, 1) := by decide +kernel
theorem dX9_noCounter_10 : decode cX9_noCounter 10 = .ok (.invokestatic 123, 3) := by decide +kernel
theorem dX9_noCounter_13 : decode cX9_noCounter 13 = .ok (.ifCond .ne 7, 3) := by decide +kernel
theorem dX9_noCounter_16 : decode cX9_noCounter 16 = .ok (.iconst 1, 1) := by decide +kernel
theorem dX9_noCounter_17 : decode cX9_noCounter 17 = .ok (.goto 4, 3) := by decide +kernel
theorem dX9_noCounter_20 : decode cX9_noCounter 20 = .ok (.iconst 0, 1) := by decide +kernel
theorem dX9_noCounter_21 : decode cX9_noCounter 21 = .ok (.ireturn, 1) := by decide +kernel
theorem dX9_write_0 : decode cX9_write 0 = .ok (.aload_n 0, 1) := by decide +kernel
theorem dX9_write_1 : decode cX9_write 1 = .ok (.iconst 0, 1) := by decide +kernel
theorem dX9_write_2 : decode cX9_write 2 = .ok (.putfield 117, 3) := by decide +kernel
theorem dX9_write_5 : decode cX9_write 5 = .ok (.iload_n 1, 1) := by decide +kernel
theorem dX9_write_6 : decode cX9_write 6 = .ok (.i2l, 1) := by decide +kernel
theorem dX9_write_7 : decode cX9_write 7 = .ok (.lconst 1, 1) := by decide +kernel
theorem dX9_write_8 : decode cX9_write 8 = .ok (.ldc2_w 130, 3) := by decide +kernel
theorem dX9_write_11 : decode cX9_write 11 = .ok (.invokestatic 123, 3) := by decide +kernel
theorem dX9_write_14 : decode cX9_write 14 = .ok (.ifCond .ne 6, 3) := by decide +kernel
theorem dX9_write_17 : decode cX9_write 17 = .ok (.bipush (-2), 2) := by decide +kernel
theorem dX9_write_19 : decode cX9_write 19 = .ok (.ireturn, 1) := by decide +kernel
theorem dX9_write_20 : decode cX9_write 20 = .ok (.aload_n 0, 1) := by decide +kernel
theorem dX9_write_21 : decode cX9_write 21 = .ok (.getfield 132, 3) := by decide +kernel
theorem dX9_write_24 : decode cX9_write 24 = .ok (.iload_n 1, 1) := by decide +kernel
theorem dX9_write_25 : decode cX9_write 25 = .ok (.iadd, 1) := by decide +kernel
theorem dX9_write_26 : decode cX9_write 26 = .ok (.bipush 72, 2) := by decide +kernel
theorem dX9_write_28 : decode cX9_write 28 = .ok (.if_icmp .le 6, 3) := by decide +kernel
theorem dX9_write_31 : decode cX9_write 31 = .ok (.bipush (-4), 2) := by decide +kernel
theorem dX9_write_33 : decode cX9_write 33 = .ok (.ireturn, 1) := by decide +kernel
theorem dX9_write_34 : decode cX9_write 34 = .ok (.iload_n 1, 1) := by decide +kernel
theorem dX9_write_35 : decode cX9_write 35 = .ok (.iconst 1, 1) := by decide +kernel
theorem dX9_write_36 : decode cX9_write 36 = .ok (.isub, 1) := by decide +kernel
theorem dX9_write_37 : decode cX9_write 37 = .ok (.istore 4, 2) := by decide +kernel
theorem dX9_write_39 : decode cX9_write 39 = .ok (.iload 4, 2) := by decide +kernel
theorem dX9_write_41 : decode cX9_write 41 = .ok (.ifCond .lt 40, 3) := by decide +kernel
theorem dX9_write_44 : decode cX9_write 44 = .ok (.aload_n 0, 1) := by decide +kernel
theorem dX9_write_45 : decode cX9_write 45 = .ok (.getfield 7, 3) := by decide +kernel
theorem dX9_write_48 : decode cX9_write 48 = .ok (.aload_n 0, 1) := by decide +kernel
theorem dX9_write_49 : decode cX9_write 49 = .ok (.getfield 132, 3) := by decide +kernel
theorem dX9_write_52 : decode cX9_write 52 = .ok (.lload_n 2, 1) := by decide +kernel
theorem dX9_write_53 : decode cX9_write 53 = .ok (.bipush 8, 2) := by decide +kernel
theorem dX9_write_55 : decode cX9_write 55 = .ok (.iload 4, 2) := by decide +kernel
theorem dX9_write_57 : decode cX9_write 57 = .ok (.imul, 1) := by decide +kernel
theorem dX9_write_58 : decode cX9_write 58 = .ok (.lshr, 1) := by decide +kernel
theorem dX9_write_59 : decode cX9_write 59 = .ok (.l2i, 1) := by decide +kernel
theorem dX9_write_60 : decode cX9_write 60 = .ok (.sipush 255, 3) := by decide +kernel
theorem dX9_write_63 : decode cX9_write 63 = .ok (.iand, 1) := by decide +kernel
theorem dX9_write_64 : decode cX9_write 64 = .ok (.iastore, 1) := by decide +kernel
theorem dX9_write_65 : decode cX9_write 65 = .ok (.aload_n 0, 1) := by decide +kernel
theorem dX9_write_66 : decode cX9_write 66 = .ok (.dup, 1) := by decide +kernel
theorem dX9_write_67 : decode cX9_write 67 = .ok (.getfield 132, 3) := by decide +kernel
theorem dX9_write_70 : decode cX9_write 70 = .ok (.iconst 1, 1) := by decide +kernel
theorem dX9_write_71 : decode cX9_write 71 = .ok (.iadd, 1) := by decide +kernel
theorem dX9_write_72 : decode cX9_write 72 = .ok (.putfield 132, 3) := by decide +kernel
theorem dX9_write_75 : decode cX9_write 75 = .ok (.iinc 4 (-1), 3) := by decide +kernel
theorem dX9_write_78 : decode cX9_write 78 = .ok (.goto (-39), 3) := by decide +kernel
theorem dX9_write_81 : decode cX9_write 81 = .ok (.aload_n 0, 1) := by decide +kernel
theorem dX9_write_82 : decode cX9_write 82 = .ok (.getfield 132, 3) := by decide +kernel
theorem dX9_write_85 : decode cX9_write 85 = .ok (.ireturn, 1) := by decide +kernel
theorem dX9_wipe_0 : decode cX9_wipe 0 = .ok (.aload_n 0, 1) := by decide +kernel
theorem dX9_wipe_1 : decode cX9_wipe 1 = .ok (.iconst 0, 1) := by decide +kernel
theorem dX9_wipe_2 : decode cX9_wipe 2 = .ok (.putfield 117, 3) := by decide +kernel
theorem dX9_wipe_5 : decode cX9_wipe 5 = .ok (.aload_n 0, 1) := by decide +kernel
theorem dX9_wipe_6 : decode cX9_wipe 6 = .ok (.getfield 132, 3) := by decide +kernel
theorem dX9_wipe_9 : decode cX9_wipe 9 = .ok (.istore_n 1, 1) := by decide +kernel
theorem dX9_wipe_10 : decode cX9_wipe 10 = .ok (.aload_n 0, 1) := by decide +kernel
theorem dX9_wipe_11 : decode cX9_wipe 11 = .ok (.iconst 0, 1) := by decide +kernel
theorem dX9_wipe_12 : decode cX9_wipe 12 = .ok (.putfield 132, 3) := by decide +kernel
theorem dX9_wipe_15 : decode cX9_wipe 15 = .ok (.iload_n 1, 1) := by decide +kernel
theorem dX9_wipe_16 : decode cX9_wipe 16 = .ok (.ireturn, 1) := by decide +kernel
theorem dX9_figure_0 : decode cX9_figure 0 = .ok (.aload_n 0, 1) := by decide +kernel
theorem dX9_figure_1 : decode cX9_figure 1 = .ok (.getfield 135, 3) := by decide +kernel
theorem dX9_figure_4 : decode cX9_figure 4 = .ok (.aload_n 0, 1) := by decide +kernel
theorem dX9_figure_5 : decode cX9_figure 5 = .ok (.getfield 132, 3) := by decide +kernel
theorem dX9_figure_8 : decode cX9_figure 8 = .ok (.if_icmp .eq 27, 3) := by decide +kernel
theorem dX9_figure_11 : decode cX9_figure 11 = .ok (.aload_n 0, 1) := by decide +kernel
theorem dX9_figure_12 : decode cX9_figure 12 = .ok (.getfield 7, 3) := by decide +kernel
theorem dX9_figure_15 : decode cX9_figure 15 = .ok (.aload_n 0, 1) := by decide +kernel
theorem dX9_figure_16 : decode cX9_figure 16 = .ok (.getfield 135, 3) := by decide +kernel
theorem dX9_figure_19 : decode cX9_figure 19 = .ok (.iaload, 1) := by decide +kernel
theorem dX9_figure_20 : decode cX9_figure 20 = .ok (.bipush 48, 2) := by decide +kernel
theorem dX9_figure_22 : decode cX9_figure 22 = .ok (.isub, 1) := by decide +kernel
theorem dX9_figure_23 : decode cX9_figure 23 = .ok (.i2l, 1) := by decide +kernel
theorem dX9_figure_24 : decode cX9_figure 24 = .ok (.iload_n 1, 1) := by decide +kernel
theorem dX9_figure_25 : decode cX9_figure 25 = .ok (.i2l, 1) := by decide +kernel
theorem dX9_figure_26 : decode cX9_figure 26 = .ok (.ldc2_w 138, 3) := by decide +kernel
theorem dX9_figure_29 : decode cX9_figure 29 = .ok (.invokestatic 123, 3) := by decide +kernel
theorem dX9_figure_32 : decode cX9_figure 32 = .ok (.ifCond .ne 6, 3) := by decide +kernel
theorem dX9_figure_35 : decode cX9_figure 35 = .ok (.bipush (-9), 2) := by decide +kernel
theorem dX9_figure_37 : decode cX9_figure 37 = .ok (.ireturn, 1) := by decide +kernel
theorem dX9_figure_38 : decode cX9_figure 38 = .ok (.aload_n 0, 1) := by decide +kernel
theorem dX9_figure_39 : decode cX9_figure 39 = .ok (.dup, 1) := by decide +kernel
theorem dX9_figure_40 : decode cX9_figure 40 = .ok (.getfield 135, 3) := by decide +kernel
theorem dX9_figure_43 : decode cX9_figure 43 = .ok (.iconst 1, 1) := by decide +kernel
theorem dX9_figure_44 : decode cX9_figure 44 = .ok (.iadd, 1) := by decide +kernel
theorem dX9_figure_45 : decode cX9_figure 45 = .ok (.putfield 135, 3) := by decide +kernel
theorem dX9_figure_48 : decode cX9_figure 48 = .ok (.aload_n 0, 1) := by decide +kernel
theorem dX9_figure_49 : decode cX9_figure 49 = .ok (.getfield 7, 3) := by decide +kernel
theorem dX9_figure_52 : decode cX9_figure 52 = .ok (.aload_n 0, 1) := by decide +kernel
theorem dX9_figure_53 : decode cX9_figure 53 = .ok (.getfield 135, 3) := by decide +kernel
theorem dX9_figure_56 : decode cX9_figure 56 = .ok (.iconst 1, 1) := by decide +kernel
theorem dX9_figure_57 : decode cX9_figure 57 = .ok (.isub, 1) := by decide +kernel
theorem dX9_figure_58 : decode cX9_figure 58 = .ok (.iaload, 1) := by decide +kernel
theorem dX9_figure_59 : decode cX9_figure 59 = .ok (.bipush 48, 2) := by decide +kernel
theorem dX9_figure_61 : decode cX9_figure 61 = .ok (.isub, 1) := by decide +kernel
theorem dX9_figure_62 : decode cX9_figure 62 = .ok (.ireturn, 1) := by decide +kernel
theorem dX9_two_0 : decode cX9_two 0 = .ok (.aload_n 0, 1) := by decide +kernel
theorem dX9_two_1 : decode cX9_two 1 = .ok (.iconst 0, 1) := by decide +kernel
theorem dX9_two_2 : decode cX9_two 2 = .ok (.invokevirtual 140, 3) := by decide +kernel
theorem dX9_two_5 : decode cX9_two 5 = .ok (.istore_n 2, 1) := by decide +kernel
theorem dX9_two_6 : decode cX9_two 6 = .ok (.iload_n 2, 1) := by decide +kernel
theorem dX9_two_7 : decode cX9_two 7 = .ok (.bipush (-9), 2) := by decide +kernel
theorem dX9_two_9 : decode cX9_two 9 = .ok (.if_icmp .ne 8, 3) := by decide +kernel
theorem dX9_two_12 : decode cX9_two 12 = .ok (.bipush (-9), 2) := by decide +kernel
theorem dX9_two_14 : decode cX9_two 14 = .ok (.goto 16, 3) := by decide +kernel
theorem dX9_two_17 : decode cX9_two 17 = .ok (.aload_n 0, 1) := by decide +kernel
theorem dX9_two_18 : decode cX9_two 18 = .ok (.iload_n 2, 1) := by decide +kernel
theorem dX9_two_19 : decode cX9_two 19 = .ok (.ifCond .ne 7, 3) := by decide +kernel
theorem dX9_two_22 : decode cX9_two 22 = .ok (.iload_n 1, 1) := by decide +kernel
theorem dX9_two_23 : decode cX9_two 23 = .ok (.goto 4, 3) := by decide +kernel
theorem dX9_two_26 : decode cX9_two 26 = .ok (.iconst 0, 1) := by decide +kernel
theorem dX9_two_27 : decode cX9_two 27 = .ok (.invokevirtual 140, 3) := by decide +kernel
theorem dX9_two_30 : decode cX9_two 30 = .ok (.istore_n 3, 1) := by decide +kernel
theorem dX9_two_31 : decode cX9_two 31 = .ok (.iload_n 3, 1) := by decide +kernel
theorem dX9_two_32 : decode cX9_two 32 = .ok (.bipush (-9), 2) := by decide +kernel
theorem dX9_two_34 : decode cX9_two 34 = .ok (.if_icmp .ne 8, 3) := by decide +kernel
theorem dX9_two_37 : decode cX9_two 37 = .ok (.bipush (-9), 2) := by decide +kernel
theorem dX9_two_39 : decode cX9_two 39 = .ok (.goto 9, 3) := by decide +kernel
theorem dX9_two_42 : decode cX9_two 42 = .ok (.bipush 10, 2) := by decide +kernel
theorem dX9_two_44 : decode cX9_two 44 = .ok (.iload_n 2, 1) := by decide +kernel
theorem dX9_two_45 : decode cX9_two 45 = .ok (.imul, 1) := by decide +kernel
theorem dX9_two_46 : decode cX9_two 46 = .ok (.iload_n 3, 1) := by decide +kernel
theorem dX9_two_47 : decode cX9_two 47 = .ok (.iadd, 1) := by decide +kernel
theorem dX9_two_48 : decode cX9_two 48 = .ok (.ireturn, 1) := by decide +kernel
theorem dX9_readPerson_0 : decode cX9_readPerson 0 = .ok (.aload_n 0, 1) := by decide +kernel
theorem dX9_readPerson_1 : decode cX9_readPerson 1 = .ok (.iconst 1, 1) := by decide +kernel
theorem dX9_readPerson_2 : decode cX9_readPerson 2 = .ok (.invokevirtual 144, 3) := by decide +kernel
theorem dX9_readPerson_5 : decode cX9_readPerson 5 = .ok (.istore_n 1, 1) := by decide +kernel
theorem dX9_readPerson_6 : decode cX9_readPerson 6 = .ok (.iload_n 1, 1) := by decide +kernel
theorem dX9_readPerson_7 : decode cX9_readPerson 7 = .ok (.bipush (-9), 2) := by decide +kernel
theorem dX9_readPerson_9 : decode cX9_readPerson 9 = .ok (.if_icmp .ne 8, 3) := by decide +kernel
theorem dX9_readPerson_12 : decode cX9_readPerson 12 = .ok (.bipush (-9), 2) := by decide +kernel
theorem dX9_readPerson_14 : decode cX9_readPerson 14 = .ok (.goto 8, 3) := by decide +kernel
theorem dX9_readPerson_17 : decode cX9_readPerson 17 = .ok (.aload_n 0, 1) := by decide +kernel
theorem dX9_readPerson_18 : decode cX9_readPerson 18 = .ok (.iconst 0, 1) := by decide +kernel
theorem dX9_readPerson_19 : decode cX9_readPerson 19 = .ok (.invokevirtual 144, 3) := by decide +kernel
theorem dX9_readPerson_22 : decode cX9_readPerson 22 = .ok (.istore_n 2, 1) := by decide +kernel
theorem dX9_readPerson_23 : decode cX9_readPerson 23 = .ok (.iload_n 2, 1) := by decide +kernel
theorem dX9_readPerson_24 : decode cX9_readPerson 24 = .ok (.bipush (-9), 2) := by decide +kernel
theorem dX9_readPerson_26 : decode cX9_readPerson 26 = .ok (.if_icmp .ne 5, 3) := by decide +kernel
theorem dX9_readPerson_29 : decode cX9_readPerson 29 = .ok (.iconst 0, 1) := by decide +kernel
theorem dX9_readPerson_30 : decode cX9_readPerson 30 = .ok (.ireturn, 1) := by decide +kernel
theorem dX9_readPerson_31 : decode cX9_readPerson 31 = .ok (.aload_n 0, 1) := by decide +kernel
theorem dX9_readPerson_32 : decode cX9_readPerson 32 = .ok (.getfield 39, 3) := by decide +kernel
theorem dX9_readPerson_35 : decode cX9_readPerson 35 = .ok (.aload_n 0, 1) := by decide +kernel
theorem dX9_readPerson_36 : decode cX9_readPerson 36 = .ok (.getfield 147, 3) := by decide +kernel
theorem dX9_readPerson_39 : decode cX9_readPerson 39 = .ok (.iload_n 1, 1) := by decide +kernel
theorem dX9_readPerson_40 : decode cX9_readPerson 40 = .ok (.iastore, 1) := by decide +kernel
theorem dX9_readPerson_41 : decode cX9_readPerson 41 = .ok (.aload_n 0, 1) := by decide +kernel
theorem dX9_readPerson_42 : decode cX9_readPerson 42 = .ok (.getfield 42, 3) := by decide +kernel
theorem dX9_readPerson_45 : decode cX9_readPerson 45 = .ok (.aload_n 0, 1) := by decide +kernel
theorem dX9_readPerson_46 : decode cX9_readPerson 46 = .ok (.getfield 147, 3) := by decide +kernel
theorem dX9_readPerson_49 : decode cX9_readPerson 49 = .ok (.iload_n 2, 1) := by decide +kernel
theorem dX9_readPerson_50 : decode cX9_readPerson 50 = .ok (.iastore, 1) := by decide +kernel
theorem dX9_readPerson_51 : decode cX9_readPerson 51 = .ok (.aload_n 0, 1) := by decide +kernel
theorem dX9_readPerson_52 : decode cX9_readPerson 52 = .ok (.dup, 1) := by decide +kernel
theorem dX9_readPerson_53 : decode cX9_readPerson 53 = .ok (.getfield 147, 3) := by decide +kernel
theorem dX9_readPerson_56 : decode cX9_readPerson 56 = .ok (.iconst 1, 1) := by decide +kernel
theorem dX9_readPerson_57 : decode cX9_readPerson 57 = .ok (.iadd, 1) := by decide +kernel
theorem dX9_readPerson_58 : decode cX9_readPerson 58 = .ok (.putfield 147, 3) := by decide +kernel
theorem dX9_readPerson_61 : decode cX9_readPerson 61 = .ok (.iconst 1, 1) := by decide +kernel
theorem dX9_readPerson_62 : decode cX9_readPerson 62 = .ok (.ireturn, 1) := by decide +kernel
theorem dX9_readCounter_0 : decode cX9_readCounter 0 = .ok (.aload_n 0, 1) := by decide +kernel
theorem dX9_readCounter_1 : decode cX9_readCounter 1 = .ok (.iconst 1, 1) := by decide +kernel
theorem dX9_readCounter_2 : decode cX9_readCounter 2 = .ok (.invokevirtual 144, 3) := by decide +kernel
theorem dX9_readCounter_5 : decode cX9_readCounter 5 = .ok (.istore_n 1, 1) := by decide +kernel
theorem dX9_readCounter_6 : decode cX9_readCounter 6 = .ok (.iload_n 1, 1) := by decide +kernel
theorem dX9_readCounter_7 : decode cX9_readCounter 7 = .ok (.bipush (-9), 2) := by decide +kernel
theorem dX9_readCounter_9 : decode cX9_readCounter 9 = .ok (.if_icmp .ne 8, 3) := by decide +kernel
theorem dX9_readCounter_12 : decode cX9_readCounter 12 = .ok (.bipush (-9), 2) := by decide +kernel
theorem dX9_readCounter_14 : decode cX9_readCounter 14 = .ok (.goto 8, 3) := by decide +kernel
theorem dX9_readCounter_17 : decode cX9_readCounter 17 = .ok (.aload_n 0, 1) := by decide +kernel
theorem dX9_readCounter_18 : decode cX9_readCounter 18 = .ok (.iconst 0, 1) := by decide +kernel
theorem dX9_readCounter_19 : decode cX9_readCounter 19 = .ok (.invokevirtual 144, 3) := by decide +kernel
theorem dX9_readCounter_22 : decode cX9_readCounter 22 = .ok (.istore_n 2, 1) := by decide +kernel
theorem dX9_readCounter_23 : decode cX9_readCounter 23 = .ok (.iload_n 2, 1) := by decide +kernel
theorem dX9_readCounter_24 : decode cX9_readCounter 24 = .ok (.bipush (-9), 2) := by decide +kernel
theorem dX9_readCounter_26 : decode cX9_readCounter 26 = .ok (.if_icmp .ne 8, 3) := by decide +kernel
theorem dX9_readCounter_29 : decode cX9_readCounter 29 = .ok (.bipush (-9), 2) := by decide +kernel
theorem dX9_readCounter_31 : decode cX9_readCounter 31 = .ok (.goto 8, 3) := by decide +kernel
theorem dX9_readCounter_34 : decode cX9_readCounter 34 = .ok (.aload_n 0, 1) := by decide +kernel
theorem dX9_readCounter_35 : decode cX9_readCounter 35 = .ok (.iconst 0, 1) := by decide +kernel
theorem dX9_readCounter_36 : decode cX9_readCounter 36 = .ok (.invokevirtual 144, 3) := by decide +kernel
theorem dX9_readCounter_39 : decode cX9_readCounter 39 = .ok (.istore_n 3, 1) := by decide +kernel
theorem dX9_readCounter_40 : decode cX9_readCounter 40 = .ok (.iload_n 3, 1) := by decide +kernel
theorem dX9_readCounter_41 : decode cX9_readCounter 41 = .ok (.bipush (-9), 2) := by decide +kernel
theorem dX9_readCounter_43 : decode cX9_readCounter 43 = .ok (.if_icmp .ne 5, 3) := by decide +kernel
theorem dX9_readCounter_46 : decode cX9_readCounter 46 = .ok (.iconst 0, 1) := by decide +kernel
theorem dX9_readCounter_47 : decode cX9_readCounter 47 = .ok (.ireturn, 1) := by decide +kernel
theorem dX9_readCounter_48 : decode cX9_readCounter 48 = .ok (.aload_n 0, 1) := by decide +kernel
theorem dX9_readCounter_49 : decode cX9_readCounter 49 = .ok (.getfield 45, 3) := by decide +kernel
theorem dX9_readCounter_52 : decode cX9_readCounter 52 = .ok (.aload_n 0, 1) := by decide +kernel
theorem dX9_readCounter_53 : decode cX9_readCounter 53 = .ok (.getfield 150, 3) := by decide +kernel
theorem dX9_readCounter_56 : decode cX9_readCounter 56 = .ok (.iload_n 1, 1) := by decide +kernel
theorem dX9_readCounter_57 : decode cX9_readCounter 57 = .ok (.iastore, 1) := by decide +kernel
theorem dX9_readCounter_58 : decode cX9_readCounter 58 = .ok (.aload_n 0, 1) := by decide +kernel
theorem dX9_readCounter_59 : decode cX9_readCounter 59 = .ok (.getfield 48, 3) := by decide +kernel
theorem dX9_readCounter_62 : decode cX9_readCounter 62 = .ok (.aload_n 0, 1) := by decide +kernel
theorem dX9_readCounter_63 : decode cX9_readCounter 63 = .ok (.getfield 150, 3) := by decide +kernel
theorem dX9_readCounter_66 : decode cX9_readCounter 66 = .ok (.bipush 100, 2) := by decide +kernel
theorem dX9_readCounter_68 : decode cX9_readCounter 68 = .ok (.iload_n 2, 1) := by decide +kernel
theorem dX9_readCounter_69 : decode cX9_readCounter 69 = .ok (.imul, 1) := by decide +kernel
theorem dX9_readCounter_70 : decode cX9_readCounter 70 = .ok (.iload_n 3, 1) := by decide +kernel
theorem dX9_readCounter_71 : decode cX9_readCounter 71 = .ok (.iadd, 1) := by decide +kernel
theorem dX9_readCounter_72 : decode cX9_readCounter 72 = .ok (.iastore, 1) := by decide +kernel
theorem dX9_readCounter_73 : decode cX9_readCounter 73 = .ok (.aload_n 0, 1) := by decide +kernel
theorem dX9_readCounter_74 : decode cX9_readCounter 74 = .ok (.dup, 1) := by decide +kernel
theorem dX9_readCounter_75 : decode cX9_readCounter 75 = .ok (.getfield 150, 3) := by decide +kernel
theorem dX9_readCounter_78 : decode cX9_readCounter 78 = .ok (.iconst 1, 1) := by decide +kernel
theorem dX9_readCounter_79 : decode cX9_readCounter 79 = .ok (.iadd, 1) := by decide +kernel
theorem dX9_readCounter_80 : decode cX9_readCounter 80 = .ok (.putfield 150, 3) := by decide +kernel
theorem dX9_readCounter_83 : decode cX9_readCounter 83 = .ok (.iconst 1, 1) := by decide +kernel
theorem dX9_readCounter_84 : decode cX9_readCounter 84 = .ok (.ireturn, 1) := by decide +kernel
theorem dX9_hasLeft_0 : decode cX9_hasLeft 0 = .ok (.iconst 0, 1) := by decide +kernel
theorem dX9_hasLeft_1 : decode cX9_hasLeft 1 = .ok (.istore_n 2, 1) := by decide +kernel
theorem dX9_hasLeft_2 : decode cX9_hasLeft 2 = .ok (.iconst 0, 1) := by decide +kernel
theorem dX9_hasLeft_3 : decode cX9_hasLeft 3 = .ok (.istore_n 3, 1) := by decide +kernel
theorem dX9_hasLeft_4 : decode cX9_hasLeft 4 = .ok (.iload_n 3, 1) := by decide +kernel
theorem dX9_hasLeft_5 : decode cX9_hasLeft 5 = .ok (.aload_n 0, 1) := by decide +kernel
theorem dX9_hasLeft_6 : decode cX9_hasLeft 6 = .ok (.getfield 150, 3) := by decide +kernel
theorem dX9_hasLeft_9 : decode cX9_hasLeft 9 = .ok (.if_icmp .ge 32, 3) := by decide +kernel
theorem dX9_hasLeft_12 : decode cX9_hasLeft 12 = .ok (.iload_n 2, 1) := by decide +kernel
theorem dX9_hasLeft_13 : decode cX9_hasLeft 13 = .ok (.ifCond .ne 16, 3) := by decide +kernel
theorem dX9_hasLeft_16 : decode cX9_hasLeft 16 = .ok (.aload_n 0, 1) := by decide +kernel
theorem dX9_hasLeft_17 : decode cX9_hasLeft 17 = .ok (.getfield 51, 3) := by decide +kernel
theorem dX9_hasLeft_20 : decode cX9_hasLeft 20 = .ok (.iconst 4, 1) := by decide +kernel
theorem dX9_hasLeft_21 : decode cX9_hasLeft 21 = .ok (.iload_n 1, 1) := by decide +kernel
theorem dX9_hasLeft_22 : decode cX9_hasLeft 22 = .ok (.imul, 1) := by decide +kernel
theorem dX9_hasLeft_23 : decode cX9_hasLeft 23 = .ok (.iload_n 3, 1) := by decide +kernel
theorem dX9_hasLeft_24 : decode cX9_hasLeft 24 = .ok (.iadd, 1) := by decide +kernel
theorem dX9_hasLeft_25 : decode cX9_hasLeft 25 = .ok (.baload, 1) := by decide +kernel
theorem dX9_hasLeft_26 : decode cX9_hasLeft 26 = .ok (.ifCond .ne 7, 3) := by decide +kernel
theorem dX9_hasLeft_29 : decode cX9_hasLeft 29 = .ok (.iconst 1, 1) := by decide +kernel
theorem dX9_hasLeft_30 : decode cX9_hasLeft 30 = .ok (.goto 4, 3) := by decide +kernel
theorem dX9_hasLeft_33 : decode cX9_hasLeft 33 = .ok (.iconst 0, 1) := by decide +kernel
theorem dX9_hasLeft_34 : decode cX9_hasLeft 34 = .ok (.istore_n 2, 1) := by decide +kernel
theorem dX9_hasLeft_35 : decode cX9_hasLeft 35 = .ok (.iinc 3 1, 3) := by decide +kernel
theorem dX9_hasLeft_38 : decode cX9_hasLeft 38 = .ok (.goto (-34), 3) := by decide +kernel
theorem dX9_hasLeft_41 : decode cX9_hasLeft 41 = .ok (.iload_n 2, 1) := by decide +kernel
theorem dX9_hasLeft_42 : decode cX9_hasLeft 42 = .ok (.ireturn, 1) := by decide +kernel
theorem dX9_hasAny_0 : decode cX9_hasAny 0 = .ok (.iconst 0, 1) := by decide +kernel
theorem dX9_hasAny_1 : decode cX9_hasAny 1 = .ok (.istore_n 1, 1) := by decide +kernel
theorem dX9_hasAny_2 : decode cX9_hasAny 2 = .ok (.iconst 0, 1) := by decide +kernel
theorem dX9_hasAny_3 : decode cX9_hasAny 3 = .ok (.istore_n 2, 1) := by decide +kernel
theorem dX9_hasAny_4 : decode cX9_hasAny 4 = .ok (.iload_n 2, 1) := by decide +kernel
theorem dX9_hasAny_5 : decode cX9_hasAny 5 = .ok (.aload_n 0, 1) := by decide +kernel
theorem dX9_hasAny_6 : decode cX9_hasAny 6 = .ok (.getfield 147, 3) := by decide +kernel
theorem dX9_hasAny_9 : decode cX9_hasAny 9 = .ok (.if_icmp .ge 27, 3) := by decide +kernel
theorem dX9_hasAny_12 : decode cX9_hasAny 12 = .ok (.iload_n 1, 1) := by decide +kernel
theorem dX9_hasAny_13 : decode cX9_hasAny 13 = .ok (.ifCond .ne 11, 3) := by decide +kernel
theorem dX9_hasAny_16 : decode cX9_hasAny 16 = .ok (.aload_n 0, 1) := by decide +kernel
theorem dX9_hasAny_17 : decode cX9_hasAny 17 = .ok (.iload_n 2, 1) := by decide +kernel
theorem dX9_hasAny_18 : decode cX9_hasAny 18 = .ok (.invokevirtual 153, 3) := by decide +kernel
theorem dX9_hasAny_21 : decode cX9_hasAny 21 = .ok (.ifCond .eq 7, 3) := by decide +kernel
theorem dX9_hasAny_24 : decode cX9_hasAny 24 = .ok (.iconst 1, 1) := by decide +kernel
theorem dX9_hasAny_25 : decode cX9_hasAny 25 = .ok (.goto 4, 3) := by decide +kernel
theorem dX9_hasAny_28 : decode cX9_hasAny 28 = .ok (.iconst 0, 1) := by decide +kernel
theorem dX9_hasAny_29 : decode cX9_hasAny 29 = .ok (.istore_n 1, 1) := by decide +kernel
theorem dX9_hasAny_30 : decode cX9_hasAny 30 = .ok (.iinc 2 1, 3) := by decide +kernel
theorem dX9_hasAny_33 : decode cX9_hasAny 33 = .ok (.goto (-29), 3) := by decide +kernel
theorem dX9_hasAny_36 : decode cX9_hasAny 36 = .ok (.iload_n 1, 1) := by decide +kernel
theorem dX9_hasAny_37 : decode cX9_hasAny 37 = .ok (.ireturn, 1) := by decide +kernel
theorem dX9_readBar_0 : decode cX9_readBar 0 = .ok (.aload_n 0, 1) := by decide +kernel
theorem dX9_readBar_1 : decode cX9_readBar 1 = .ok (.getfield 135, 3) := by decide +kernel
theorem dX9_readBar_4 : decode cX9_readBar 4 = .ok (.aload_n 0, 1) := by decide +kernel
theorem dX9_readBar_5 : decode cX9_readBar 5 = .ok (.getfield 132, 3) := by decide +kernel
theorem dX9_readBar_8 : decode cX9_readBar 8 = .ok (.if_icmp .ge 18, 3) := by decide +kernel
theorem dX9_readBar_11 : decode cX9_readBar 11 = .ok (.aload_n 0, 1) := by decide +kernel
theorem dX9_readBar_12 : decode cX9_readBar 12 = .ok (.getfield 7, 3) := by decide +kernel
theorem dX9_readBar_15 : decode cX9_readBar 15 = .ok (.aload_n 0, 1) := by decide +kernel
theorem dX9_readBar_16 : decode cX9_readBar 16 = .ok (.getfield 135, 3) := by decide +kernel
theorem dX9_readBar_19 : decode cX9_readBar 19 = .ok (.iaload, 1) := by decide +kernel
theorem dX9_readBar_20 : decode cX9_readBar 20 = .ok (.bipush 48, 2) := by decide +kernel
theorem dX9_readBar_22 : decode cX9_readBar 22 = .ok (.isub, 1) := by decide +kernel
theorem dX9_readBar_23 : decode cX9_readBar 23 = .ok (.goto 5, 3) := by decide +kernel
theorem dX9_readBar_26 : decode cX9_readBar 26 = .ok (.bipush (-9), 2) := by decide +kernel
theorem dX9_readBar_28 : decode cX9_readBar 28 = .ok (.istore_n 1, 1) := by decide +kernel
theorem dX9_readBar_29 : decode cX9_readBar 29 = .ok (.iload_n 1, 1) := by decide +kernel
theorem dX9_readBar_30 : decode cX9_readBar 30 = .ok (.i2l, 1) := by decide +kernel
theorem dX9_readBar_31 : decode cX9_readBar 31 = .ok (.lconst 0, 1) := by decide +kernel
theorem dX9_readBar_32 : decode cX9_readBar 32 = .ok (.aload_n 0, 1) := by decide +kernel
theorem dX9_readBar_33 : decode cX9_readBar 33 = .ok (.getfield 147, 3) := by decide +kernel
theorem dX9_readBar_36 : decode cX9_readBar 36 = .ok (.iconst 1, 1) := by decide +kernel
theorem dX9_readBar_37 : decode cX9_readBar 37 = .ok (.isub, 1) := by decide +kernel
theorem dX9_readBar_38 : decode cX9_readBar 38 = .ok (.i2l, 1) := by decide +kernel
theorem dX9_readBar_39 : decode cX9_readBar 39 = .ok (.invokestatic 123, 3) := by decide +kernel
theorem dX9_readBar_42 : decode cX9_readBar 42 = .ok (.ifCond .eq 11, 3) := by decide +kernel
theorem dX9_readBar_45 : decode cX9_readBar 45 = .ok (.aload_n 0, 1) := by decide +kernel
theorem dX9_readBar_46 : decode cX9_readBar 46 = .ok (.iload_n 1, 1) := by decide +kernel
theorem dX9_readBar_47 : decode cX9_readBar 47 = .ok (.invokevirtual 153, 3) := by decide +kernel
theorem dX9_readBar_50 : decode cX9_readBar 50 = .ok (.ifCond .ne 5, 3) := by decide +kernel
theorem dX9_readBar_53 : decode cX9_readBar 53 = .ok (.iconst 0, 1) := by decide +kernel
theorem dX9_readBar_54 : decode cX9_readBar 54 = .ok (.ireturn, 1) := by decide +kernel
theorem dX9_readBar_55 : decode cX9_readBar 55 = .ok (.aload_n 0, 1) := by decide +kernel
theorem dX9_readBar_56 : decode cX9_readBar 56 = .ok (.dup, 1) := by decide +kernel
theorem dX9_readBar_57 : decode cX9_readBar 57 = .ok (.getfield 135, 3) := by decide +kernel
theorem dX9_readBar_60 : decode cX9_readBar 60 = .ok (.iconst 1, 1) := by decide +kernel
theorem dX9_readBar_61 : decode cX9_readBar 61 = .ok (.iadd, 1) := by decide +kernel
theorem dX9_readBar_62 : decode cX9_readBar 62 = .ok (.putfield 135, 3) := by decide +kernel
theorem dX9_readBar_65 : decode cX9_readBar 65 = .ok (.aload_n 0, 1) := by decide +kernel
theorem dX9_readBar_66 : decode cX9_readBar 66 = .ok (.getfield 135, 3) := by decide +kernel
theorem dX9_readBar_69 : decode cX9_readBar 69 = .ok (.aload_n 0, 1) := by decide +kernel
theorem dX9_readBar_70 : decode cX9_readBar 70 = .ok (.getfield 132, 3) := by decide +kernel
theorem dX9_readBar_73 : decode cX9_readBar 73 = .ok (.if_icmp .ge 18, 3) := by decide +kernel
theorem dX9_readBar_76 : decode cX9_readBar 76 = .ok (.aload_n 0, 1) := by decide +kernel
theorem dX9_readBar_77 : decode cX9_readBar 77 = .ok (.getfield 7, 3) := by decide +kernel
theorem dX9_readBar_80 : decode cX9_readBar 80 = .ok (.aload_n 0, 1) := by decide +kernel
theorem dX9_readBar_81 : decode cX9_readBar 81 = .ok (.getfield 135, 3) := by decide +kernel
theorem dX9_readBar_84 : decode cX9_readBar 84 = .ok (.iaload, 1) := by decide +kernel
theorem dX9_readBar_85 : decode cX9_readBar 85 = .ok (.bipush 48, 2) := by decide +kernel
theorem dX9_readBar_87 : decode cX9_readBar 87 = .ok (.isub, 1) := by decide +kernel
theorem dX9_readBar_88 : decode cX9_readBar 88 = .ok (.goto 5, 3) := by decide +kernel
theorem dX9_readBar_91 : decode cX9_readBar 91 = .ok (.bipush (-9), 2) := by decide +kernel
theorem dX9_readBar_93 : decode cX9_readBar 93 = .ok (.istore_n 2, 1) := by decide +kernel
theorem dX9_readBar_94 : decode cX9_readBar 94 = .ok (.iload_n 2, 1) := by decide +kernel
theorem dX9_readBar_95 : decode cX9_readBar 95 = .ok (.i2l, 1) := by decide +kernel
theorem dX9_readBar_96 : decode cX9_readBar 96 = .ok (.lconst 0, 1) := by decide +kernel
theorem dX9_readBar_97 : decode cX9_readBar 97 = .ok (.aload_n 0, 1) := by decide +kernel
theorem dX9_readBar_98 : decode cX9_readBar 98 = .ok (.getfield 150, 3) := by decide +kernel
theorem dX9_readBar_101 : decode cX9_readBar 101 = .ok (.iconst 1, 1) := by decide +kernel
theorem dX9_readBar_102 : decode cX9_readBar 102 = .ok (.isub, 1) := by decide +kernel
theorem dX9_readBar_103 : decode cX9_readBar 103 = .ok (.i2l, 1) := by decide +kernel
theorem dX9_readBar_104 : decode cX9_readBar 104 = .ok (.invokestatic 123, 3) := by decide +kernel
theorem dX9_readBar_107 : decode cX9_readBar 107 = .ok (.ifCond .eq 16, 3) := by decide +kernel
theorem dX9_readBar_110 : decode cX9_readBar 110 = .ok (.aload_n 0, 1) := by decide +kernel
theorem dX9_readBar_111 : decode cX9_readBar 111 = .ok (.getfield 51, 3) := by decide +kernel
theorem dX9_readBar_114 : decode cX9_readBar 114 = .ok (.iconst 4, 1) := by decide +kernel
theorem dX9_readBar_115 : decode cX9_readBar 115 = .ok (.iload_n 1, 1) := by decide +kernel
theorem dX9_readBar_116 : decode cX9_readBar 116 = .ok (.imul, 1) := by decide +kernel
theorem dX9_readBar_117 : decode cX9_readBar 117 = .ok (.iload_n 2, 1) := by decide +kernel
theorem dX9_readBar_118 : decode cX9_readBar 118 = .ok (.iadd, 1) := by decide +kernel
theorem dX9_readBar_119 : decode cX9_readBar 119 = .ok (.baload, 1) := by decide +kernel
theorem dX9_readBar_120 : decode cX9_readBar 120 = .ok (.ifCond .eq 5, 3) := by decide +kernel
theorem dX9_readBar_123 : decode cX9_readBar 123 = .ok (.iconst 0, 1) := by decide +kernel
theorem dX9_readBar_124 : decode cX9_readBar 124 = .ok (.ireturn, 1) := by decide +kernel
theorem dX9_readBar_125 : decode cX9_readBar 125 = .ok (.aload_n 0, 1) := by decide +kernel
theorem dX9_readBar_126 : decode cX9_readBar 126 = .ok (.dup, 1) := by decide +kernel
theorem dX9_readBar_127 : decode cX9_readBar 127 = .ok (.getfield 135, 3) := by decide +kernel
theorem dX9_readBar_130 : decode cX9_readBar 130 = .ok (.iconst 1, 1) := by decide +kernel
theorem dX9_readBar_131 : decode cX9_readBar 131 = .ok (.iadd, 1) := by decide +kernel
theorem dX9_readBar_132 : decode cX9_readBar 132 = .ok (.putfield 135, 3) := by decide +kernel
theorem dX9_readBar_135 : decode cX9_readBar 135 = .ok (.aload_n 0, 1) := by decide +kernel
theorem dX9_readBar_136 : decode cX9_readBar 136 = .ok (.getfield 51, 3) := by decide +kernel
theorem dX9_readBar_139 : decode cX9_readBar 139 = .ok (.iconst 4, 1) := by decide +kernel
theorem dX9_readBar_140 : decode cX9_readBar 140 = .ok (.iload_n 1, 1) := by decide +kernel
theorem dX9_readBar_141 : decode cX9_readBar 141 = .ok (.imul, 1) := by decide +kernel
theorem dX9_readBar_142 : decode cX9_readBar 142 = .ok (.iload_n 2, 1) := by decide +kernel
theorem dX9_readBar_143 : decode cX9_readBar 143 = .ok (.iadd, 1) := by decide +kernel
theorem dX9_readBar_144 : decode cX9_readBar 144 = .ok (.iconst 1, 1) := by decide +kernel
theorem dX9_readBar_145 : decode cX9_readBar 145 = .ok (.bastore, 1) := by decide +kernel
theorem dX9_readBar_146 : decode cX9_readBar 146 = .ok (.iconst 1, 1) := by decide +kernel
theorem dX9_readBar_147 : decode cX9_readBar 147 = .ok (.ireturn, 1) := by decide +kernel
theorem dX9_readPart_0 : decode cX9_readPart 0 = .ok (.aload_n 0, 1) := by decide +kernel
theorem dX9_readPart_1 : decode cX9_readPart 1 = .ok (.getfield 7, 3) := by decide +kernel
theorem dX9_readPart_4 : decode cX9_readPart 4 = .ok (.aload_n 0, 1) := by decide +kernel
theorem dX9_readPart_5 : decode cX9_readPart 5 = .ok (.getfield 135, 3) := by decide +kernel
theorem dX9_readPart_8 : decode cX9_readPart 8 = .ok (.iaload, 1) := by decide +kernel
theorem dX9_readPart_9 : decode cX9_readPart 9 = .ok (.istore_n 1, 1) := by decide +kernel
theorem dX9_readPart_10 : decode cX9_readPart 10 = .ok (.iload_n 1, 1) := by decide +kernel
theorem dX9_readPart_11 : decode cX9_readPart 11 = .ok (.bipush 65, 2) := by decide +kernel
theorem dX9_readPart_13 : decode cX9_readPart 13 = .ok (.if_icmp .ne 27, 3) := by decide +kernel
theorem dX9_readPart_16 : decode cX9_readPart 16 = .ok (.aload_n 0, 1) := by decide +kernel
theorem dX9_readPart_17 : decode cX9_readPart 17 = .ok (.getfield 147, 3) := by decide +kernel
theorem dX9_readPart_20 : decode cX9_readPart 20 = .ok (.bipush 6, 2) := by decide +kernel
theorem dX9_readPart_22 : decode cX9_readPart 22 = .ok (.if_icmp .ge 18, 3) := by decide +kernel
theorem dX9_readPart_25 : decode cX9_readPart 25 = .ok (.aload_n 0, 1) := by decide +kernel
theorem dX9_readPart_26 : decode cX9_readPart 26 = .ok (.dup, 1) := by decide +kernel
theorem dX9_readPart_27 : decode cX9_readPart 27 = .ok (.getfield 135, 3) := by decide +kernel
theorem dX9_readPart_30 : decode cX9_readPart 30 = .ok (.iconst 1, 1) := by decide +kernel
theorem dX9_readPart_31 : decode cX9_readPart 31 = .ok (.iadd, 1) := by decide +kernel
theorem dX9_readPart_32 : decode cX9_readPart 32 = .ok (.putfield 135, 3) := by decide +kernel
theorem dX9_readPart_35 : decode cX9_readPart 35 = .ok (.aload_n 0, 1) := by decide +kernel
theorem dX9_readPart_36 : decode cX9_readPart 36 = .ok (.invokevirtual 157, 3) := by decide +kernel
theorem dX9_readPart_39 : decode cX9_readPart 39 = .ok (.ireturn, 1) := by decide +kernel
theorem dX9_readPart_40 : decode cX9_readPart 40 = .ok (.iload_n 1, 1) := by decide +kernel
theorem dX9_readPart_41 : decode cX9_readPart 41 = .ok (.bipush 67, 2) := by decide +kernel
theorem dX9_readPart_43 : decode cX9_readPart 43 = .ok (.if_icmp .ne 26, 3) := by decide +kernel
theorem dX9_readPart_46 : decode cX9_readPart 46 = .ok (.aload_n 0, 1) := by decide +kernel
theorem dX9_readPart_47 : decode cX9_readPart 47 = .ok (.getfield 150, 3) := by decide +kernel
theorem dX9_readPart_50 : decode cX9_readPart 50 = .ok (.iconst 4, 1) := by decide +kernel
theorem dX9_readPart_51 : decode cX9_readPart 51 = .ok (.if_icmp .ge 18, 3) := by decide +kernel
theorem dX9_readPart_54 : decode cX9_readPart 54 = .ok (.aload_n 0, 1) := by decide +kernel
theorem dX9_readPart_55 : decode cX9_readPart 55 = .ok (.dup, 1) := by decide +kernel
theorem dX9_readPart_56 : decode cX9_readPart 56 = .ok (.getfield 135, 3) := by decide +kernel
theorem dX9_readPart_59 : decode cX9_readPart 59 = .ok (.iconst 1, 1) := by decide +kernel
theorem dX9_readPart_60 : decode cX9_readPart 60 = .ok (.iadd, 1) := by decide +kernel
theorem dX9_readPart_61 : decode cX9_readPart 61 = .ok (.putfield 135, 3) := by decide +kernel
theorem dX9_readPart_64 : decode cX9_readPart 64 = .ok (.aload_n 0, 1) := by decide +kernel
theorem dX9_readPart_65 : decode cX9_readPart 65 = .ok (.invokevirtual 161, 3) := by decide +kernel
theorem dX9_readPart_68 : decode cX9_readPart 68 = .ok (.ireturn, 1) := by decide +kernel
theorem dX9_readPart_69 : decode cX9_readPart 69 = .ok (.iload_n 1, 1) := by decide +kernel
theorem dX9_readPart_70 : decode cX9_readPart 70 = .ok (.bipush 78, 2) := by decide +kernel
theorem dX9_readPart_72 : decode cX9_readPart 72 = .ok (.if_icmp .ne 25, 3) := by decide +kernel
theorem dX9_readPart_75 : decode cX9_readPart 75 = .ok (.aload_n 0, 1) := by decide +kernel
theorem dX9_readPart_76 : decode cX9_readPart 76 = .ok (.invokevirtual 164, 3) := by decide +kernel
theorem dX9_readPart_79 : decode cX9_readPart 79 = .ok (.ifCond .eq 18, 3) := by decide +kernel
theorem dX9_readPart_82 : decode cX9_readPart 82 = .ok (.aload_n 0, 1) := by decide +kernel
theorem dX9_readPart_83 : decode cX9_readPart 83 = .ok (.dup, 1) := by decide +kernel
theorem dX9_readPart_84 : decode cX9_readPart 84 = .ok (.getfield 135, 3) := by decide +kernel
theorem dX9_readPart_87 : decode cX9_readPart 87 = .ok (.iconst 1, 1) := by decide +kernel
theorem dX9_readPart_88 : decode cX9_readPart 88 = .ok (.iadd, 1) := by decide +kernel
theorem dX9_readPart_89 : decode cX9_readPart 89 = .ok (.putfield 135, 3) := by decide +kernel
theorem dX9_readPart_92 : decode cX9_readPart 92 = .ok (.aload_n 0, 1) := by decide +kernel
theorem dX9_readPart_93 : decode cX9_readPart 93 = .ok (.invokevirtual 167, 3) := by decide +kernel
theorem dX9_readPart_96 : decode cX9_readPart 96 = .ok (.ireturn, 1) := by decide +kernel
theorem dX9_readPart_97 : decode cX9_readPart 97 = .ok (.iconst 0, 1) := by decide +kernel
theorem dX9_readPart_98 : decode cX9_readPart 98 = .ok (.ireturn, 1) := by decide +kernel
theorem dX9_readMarket_0 : decode cX9_readMarket 0 = .ok (.aload_n 0, 1) := by decide +kernel
theorem dX9_readMarket_1 : decode cX9_readMarket 1 = .ok (.iconst 0, 1) := by decide +kernel
theorem dX9_readMarket_2 : decode cX9_readMarket 2 = .ok (.putfield 135, 3) := by decide +kernel
theorem dX9_readMarket_5 : decode cX9_readMarket 5 = .ok (.aload_n 0, 1) := by decide +kernel
theorem dX9_readMarket_6 : decode cX9_readMarket 6 = .ok (.iconst 0, 1) := by decide +kernel
theorem dX9_readMarket_7 : decode cX9_readMarket 7 = .ok (.putfield 147, 3) := by decide +kernel
theorem dX9_readMarket_10 : decode cX9_readMarket 10 = .ok (.aload_n 0, 1) := by decide +kernel
theorem dX9_readMarket_11 : decode cX9_readMarket 11 = .ok (.iconst 0, 1) := by decide +kernel
theorem dX9_readMarket_12 : decode cX9_readMarket 12 = .ok (.putfield 150, 3) := by decide +kernel
theorem dX9_readMarket_15 : decode cX9_readMarket 15 = .ok (.iconst 0, 1) := by decide +kernel
theorem dX9_readMarket_16 : decode cX9_readMarket 16 = .ok (.istore_n 1, 1) := by decide +kernel
theorem dX9_readMarket_17 : decode cX9_readMarket 17 = .ok (.iload_n 1, 1) := by decide +kernel
theorem dX9_readMarket_18 : decode cX9_readMarket 18 = .ok (.bipush 24, 2) := by decide +kernel
theorem dX9_readMarket_20 : decode cX9_readMarket 20 = .ok (.if_icmp .ge 16, 3) := by decide +kernel
theorem dX9_readMarket_23 : decode cX9_readMarket 23 = .ok (.aload_n 0, 1) := by decide +kernel
theorem dX9_readMarket_24 : decode cX9_readMarket 24 = .ok (.getfield 51, 3) := by decide +kernel
theorem dX9_readMarket_27 : decode cX9_readMarket 27 = .ok (.iload_n 1, 1) := by decide +kernel
theorem dX9_readMarket_28 : decode cX9_readMarket 28 = .ok (.iconst 0, 1) := by decide +kernel
theorem dX9_readMarket_29 : decode cX9_readMarket 29 = .ok (.bastore, 1) := by decide +kernel
theorem dX9_readMarket_30 : decode cX9_readMarket 30 = .ok (.iinc 1 1, 3) := by decide +kernel
theorem dX9_readMarket_33 : decode cX9_readMarket 33 = .ok (.goto (-16), 3) := by decide +kernel
theorem dX9_readMarket_36 : decode cX9_readMarket 36 = .ok (.aload_n 0, 1) := by decide +kernel
theorem dX9_readMarket_37 : decode cX9_readMarket 37 = .ok (.getfield 135, 3) := by decide +kernel
theorem dX9_readMarket_40 : decode cX9_readMarket 40 = .ok (.aload_n 0, 1) := by decide +kernel
theorem dX9_readMarket_41 : decode cX9_readMarket 41 = .ok (.getfield 132, 3) := by decide +kernel
theorem dX9_readMarket_44 : decode cX9_readMarket 44 = .ok (.if_icmp .ge 15, 3) := by decide +kernel
theorem dX9_readMarket_47 : decode cX9_readMarket 47 = .ok (.aload_n 0, 1) := by decide +kernel
theorem dX9_readMarket_48 : decode cX9_readMarket 48 = .ok (.invokevirtual 170, 3) := by decide +kernel
theorem dX9_readMarket_51 : decode cX9_readMarket 51 = .ok (.ifCond .ne (-15), 3) := by decide +kernel
theorem dX9_readMarket_54 : decode cX9_readMarket 54 = .ok (.aload_n 0, 1) := by decide +kernel
theorem dX9_readMarket_55 : decode cX9_readMarket 55 = .ok (.getfield 135, 3) := by decide +kernel
theorem dX9_readMarket_58 : decode cX9_readMarket 58 = .ok (.ireturn, 1) := by decide +kernel
theorem dX9_readMarket_59 : decode cX9_readMarket 59 = .ok (.bipush (-9), 2) := by decide +kernel
theorem dX9_readMarket_61 : decode cX9_readMarket 61 = .ok (.ireturn, 1) := by decide +kernel
theorem dX9_fault_0 : decode cX9_fault 0 = .ok (.aload_n 0, 1) := by decide +kernel
theorem dX9_fault_1 : decode cX9_fault 1 = .ok (.iconst 0, 1) := by decide +kernel
theorem dX9_fault_2 : decode cX9_fault 2 = .ok (.putfield 117, 3) := by decide +kernel
theorem dX9_fault_5 : decode cX9_fault 5 = .ok (.aload_n 0, 1) := by decide +kernel
theorem dX9_fault_6 : decode cX9_fault 6 = .ok (.invokevirtual 173, 3) := by decide +kernel
theorem dX9_fault_9 : decode cX9_fault 9 = .ok (.ireturn, 1) := by decide +kernel
theorem dX9_market_0 : decode cX9_market 0 = .ok (.aload_n 0, 1) := by decide +kernel
theorem dX9_market_1 : decode cX9_market 1 = .ok (.iconst 0, 1) := by decide +kernel
theorem dX9_market_2 : decode cX9_market 2 = .ok (.putfield 117, 3) := by decide +kernel
theorem dX9_market_5 : decode cX9_market 5 = .ok (.aload_n 0, 1) := by decide +kernel
theorem dX9_market_6 : decode cX9_market 6 = .ok (.invokevirtual 173, 3) := by decide +kernel
theorem dX9_market_9 : decode cX9_market 9 = .ok (.bipush (-9), 2) := by decide +kernel
theorem dX9_market_11 : decode cX9_market 11 = .ok (.if_icmp .eq 6, 3) := by decide +kernel
theorem dX9_market_14 : decode cX9_market 14 = .ok (.bipush (-3), 2) := by decide +kernel
theorem dX9_market_16 : decode cX9_market 16 = .ok (.ireturn, 1) := by decide +kernel
theorem dX9_market_17 : decode cX9_market 17 = .ok (.aload_n 0, 1) := by decide +kernel
theorem dX9_market_18 : decode cX9_market 18 = .ok (.aload_n 0, 1) := by decide +kernel
theorem dX9_market_19 : decode cX9_market 19 = .ok (.getfield 147, 3) := by decide +kernel
theorem dX9_market_22 : decode cX9_market 22 = .ok (.putfield 120, 3) := by decide +kernel
theorem dX9_market_25 : decode cX9_market 25 = .ok (.aload_n 0, 1) := by decide +kernel
theorem dX9_market_26 : decode cX9_market 26 = .ok (.aload_n 0, 1) := by decide +kernel
theorem dX9_market_27 : decode cX9_market 27 = .ok (.getfield 150, 3) := by decide +kernel
theorem dX9_market_30 : decode cX9_market 30 = .ok (.putfield 127, 3) := by decide +kernel
theorem dX9_market_33 : decode cX9_market 33 = .ok (.iconst 0, 1) := by decide +kernel
theorem dX9_market_34 : decode cX9_market 34 = .ok (.istore_n 1, 1) := by decide +kernel
theorem dX9_market_35 : decode cX9_market 35 = .ok (.iload_n 1, 1) := by decide +kernel
theorem dX9_market_36 : decode cX9_market 36 = .ok (.bipush 6, 2) := by decide +kernel
theorem dX9_market_38 : decode cX9_market 38 = .ok (.if_icmp .ge 47, 3) := by decide +kernel
theorem dX9_market_41 : decode cX9_market 41 = .ok (.aload_n 0, 1) := by decide +kernel
theorem dX9_market_42 : decode cX9_market 42 = .ok (.getfield 13, 3) := by decide +kernel
theorem dX9_market_45 : decode cX9_market 45 = .ok (.iload_n 1, 1) := by decide +kernel
theorem dX9_market_46 : decode cX9_market 46 = .ok (.aload_n 0, 1) := by decide +kernel
theorem dX9_market_47 : decode cX9_market 47 = .ok (.getfield 39, 3) := by decide +kernel
theorem dX9_market_50 : decode cX9_market 50 = .ok (.iload_n 1, 1) := by decide +kernel
theorem dX9_market_51 : decode cX9_market 51 = .ok (.iaload, 1) := by decide +kernel
theorem dX9_market_52 : decode cX9_market 52 = .ok (.iastore, 1) := by decide +kernel
theorem dX9_market_53 : decode cX9_market 53 = .ok (.aload_n 0, 1) := by decide +kernel
theorem dX9_market_54 : decode cX9_market 54 = .ok (.getfield 16, 3) := by decide +kernel
theorem dX9_market_57 : decode cX9_market 57 = .ok (.iload_n 1, 1) := by decide +kernel
theorem dX9_market_58 : decode cX9_market 58 = .ok (.aload_n 0, 1) := by decide +kernel
theorem dX9_market_59 : decode cX9_market 59 = .ok (.getfield 42, 3) := by decide +kernel
theorem dX9_market_62 : decode cX9_market 62 = .ok (.iload_n 1, 1) := by decide +kernel
theorem dX9_market_63 : decode cX9_market 63 = .ok (.iaload, 1) := by decide +kernel
theorem dX9_market_64 : decode cX9_market 64 = .ok (.iastore, 1) := by decide +kernel
theorem dX9_market_65 : decode cX9_market 65 = .ok (.aload_n 0, 1) := by decide +kernel
theorem dX9_market_66 : decode cX9_market 66 = .ok (.getfield 29, 3) := by decide +kernel
theorem dX9_market_69 : decode cX9_market 69 = .ok (.iload_n 1, 1) := by decide +kernel
theorem dX9_market_70 : decode cX9_market 70 = .ok (.iconst 0, 1) := by decide +kernel
theorem dX9_market_71 : decode cX9_market 71 = .ok (.iastore, 1) := by decide +kernel
theorem dX9_market_72 : decode cX9_market 72 = .ok (.aload_n 0, 1) := by decide +kernel
theorem dX9_market_73 : decode cX9_market 73 = .ok (.getfield 32, 3) := by decide +kernel
theorem dX9_market_76 : decode cX9_market 76 = .ok (.iload_n 1, 1) := by decide +kernel
theorem dX9_market_77 : decode cX9_market 77 = .ok (.iconst 0, 1) := by decide +kernel
theorem dX9_market_78 : decode cX9_market 78 = .ok (.bastore, 1) := by decide +kernel
theorem dX9_market_79 : decode cX9_market 79 = .ok (.iinc 1 1, 3) := by decide +kernel
theorem dX9_market_82 : decode cX9_market 82 = .ok (.goto (-47), 3) := by decide +kernel
theorem dX9_market_85 : decode cX9_market 85 = .ok (.iconst 0, 1) := by decide +kernel
theorem dX9_market_86 : decode cX9_market 86 = .ok (.istore_n 1, 1) := by decide +kernel
theorem dX9_market_87 : decode cX9_market 87 = .ok (.iload_n 1, 1) := by decide +kernel
theorem dX9_market_88 : decode cX9_market 88 = .ok (.iconst 4, 1) := by decide +kernel
theorem dX9_market_89 : decode cX9_market 89 = .ok (.if_icmp .ge 33, 3) := by decide +kernel
theorem dX9_market_92 : decode cX9_market 92 = .ok (.aload_n 0, 1) := by decide +kernel
theorem dX9_market_93 : decode cX9_market 93 = .ok (.getfield 19, 3) := by decide +kernel
theorem dX9_market_96 : decode cX9_market 96 = .ok (.iload_n 1, 1) := by decide +kernel
theorem dX9_market_97 : decode cX9_market 97 = .ok (.aload_n 0, 1) := by decide +kernel
theorem dX9_market_98 : decode cX9_market 98 = .ok (.getfield 45, 3) := by decide +kernel
end
section
theorem dX9_market_101 : decode cX9_market 101 = .ok (.iload_n 1, 1) := by decide +kernel
theorem dX9_market_102 : decode cX9_market 102 = .ok (.iaload, 1) := by decide +kernel
theorem dX9_market_103 : decode cX9_market 103 = .ok (.iastore, 1) := by decide +kernel
theorem dX9_market_104 : decode cX9_market 104 = .ok (.aload_n 0, 1) := by decide +kernel
theorem dX9_market_105 : decode cX9_market 105 = .ok (.getfield 22, 3) := by decide +kernel
theorem dX9_market_108 : decode cX9_market 108 = .ok (.iload_n 1, 1) := by decide +kernel
theorem dX9_market_109 : decode cX9_market 109 = .ok (.aload_n 0, 1) := by decide +kernel
theorem dX9_market_110 : decode cX9_market 110 = .ok (.getfield 48, 3) := by decide +kernel
theorem dX9_market_113 : decode cX9_market 113 = .ok (.iload_n 1, 1) := by decide +kernel
theorem dX9_market_114 : decode cX9_market 114 = .ok (.iaload, 1) := by decide +kernel
theorem dX9_market_115 : decode cX9_market 115 = .ok (.iastore, 1) := by decide +kernel
theorem dX9_market_116 : decode cX9_market 116 = .ok (.iinc 1 1, 3) := by decide +kernel
theorem dX9_market_119 : decode cX9_market 119 = .ok (.goto (-32), 3) := by decide +kernel
theorem dX9_market_122 : decode cX9_market 122 = .ok (.iconst 0, 1) := by decide +kernel
theorem dX9_market_123 : decode cX9_market 123 = .ok (.istore_n 1, 1) := by decide +kernel
theorem dX9_market_124 : decode cX9_market 124 = .ok (.iload_n 1, 1) := by decide +kernel
theorem dX9_market_125 : decode cX9_market 125 = .ok (.bipush 24, 2) := by decide +kernel
theorem dX9_market_127 : decode cX9_market 127 = .ok (.if_icmp .ge 21, 3) := by decide +kernel
theorem dX9_market_130 : decode cX9_market 130 = .ok (.aload_n 0, 1) := by decide +kernel
theorem dX9_market_131 : decode cX9_market 131 = .ok (.getfield 25, 3) := by decide +kernel
theorem dX9_market_134 : decode cX9_market 134 = .ok (.iload_n 1, 1) := by decide +kernel
theorem dX9_market_135 : decode cX9_market 135 = .ok (.aload_n 0, 1) := by decide +kernel
theorem dX9_market_136 : decode cX9_market 136 = .ok (.getfield 51, 3) := by decide +kernel
theorem dX9_market_139 : decode cX9_market 139 = .ok (.iload_n 1, 1) := by decide +kernel
theorem dX9_market_140 : decode cX9_market 140 = .ok (.baload, 1) := by decide +kernel
theorem dX9_market_141 : decode cX9_market 141 = .ok (.bastore, 1) := by decide +kernel
theorem dX9_market_142 : decode cX9_market 142 = .ok (.iinc 1 1, 3) := by decide +kernel
theorem dX9_market_145 : decode cX9_market 145 = .ok (.goto (-21), 3) := by decide +kernel
theorem dX9_market_148 : decode cX9_market 148 = .ok (.aload_n 0, 1) := by decide +kernel
theorem dX9_market_149 : decode cX9_market 149 = .ok (.iconst 0, 1) := by decide +kernel
theorem dX9_market_150 : decode cX9_market 150 = .ok (.putfield 177, 3) := by decide +kernel
theorem dX9_market_153 : decode cX9_market 153 = .ok (.aload_n 0, 1) := by decide +kernel
theorem dX9_market_154 : decode cX9_market 154 = .ok (.getfield 99, 3) := by decide +kernel
theorem dX9_market_157 : decode cX9_market 157 = .ok (.iconst 0, 1) := by decide +kernel
theorem dX9_market_158 : decode cX9_market 158 = .ok (.iconst 0, 1) := by decide +kernel
theorem dX9_market_159 : decode cX9_market 159 = .ok (.bastore, 1) := by decide +kernel
theorem dX9_market_160 : decode cX9_market 160 = .ok (.aload_n 0, 1) := by decide +kernel
theorem dX9_market_161 : decode cX9_market 161 = .ok (.getfield 99, 3) := by decide +kernel
theorem dX9_market_164 : decode cX9_market 164 = .ok (.iconst 1, 1) := by decide +kernel
theorem dX9_market_165 : decode cX9_market 165 = .ok (.iconst 0, 1) := by decide +kernel
theorem dX9_market_166 : decode cX9_market 166 = .ok (.bastore, 1) := by decide +kernel
theorem dX9_market_167 : decode cX9_market 167 = .ok (.aload_n 0, 1) := by decide +kernel
theorem dX9_market_168 : decode cX9_market 168 = .ok (.getfield 120, 3) := by decide +kernel
theorem dX9_market_171 : decode cX9_market 171 = .ok (.ireturn, 1) := by decide +kernel
theorem dX9_sumOf_0 : decode cX9_sumOf 0 = .ok (.iconst 0, 1) := by decide +kernel
theorem dX9_sumOf_1 : decode cX9_sumOf 1 = .ok (.istore 4, 2) := by decide +kernel
theorem dX9_sumOf_3 : decode cX9_sumOf 3 = .ok (.iconst 0, 1) := by decide +kernel
theorem dX9_sumOf_4 : decode cX9_sumOf 4 = .ok (.istore 5, 2) := by decide +kernel
theorem dX9_sumOf_6 : decode cX9_sumOf 6 = .ok (.iload 5, 2) := by decide +kernel
theorem dX9_sumOf_8 : decode cX9_sumOf 8 = .ok (.aload_n 0, 1) := by decide +kernel
theorem dX9_sumOf_9 : decode cX9_sumOf 9 = .ok (.getfield 177, 3) := by decide +kernel
theorem dX9_sumOf_12 : decode cX9_sumOf 12 = .ok (.if_icmp .ge 97, 3) := by decide +kernel
theorem dX9_sumOf_15 : decode cX9_sumOf 15 = .ok (.iload_n 1, 1) := by decide +kernel
theorem dX9_sumOf_16 : decode cX9_sumOf 16 = .ok (.bipush (-9), 2) := by decide +kernel
theorem dX9_sumOf_18 : decode cX9_sumOf 18 = .ok (.if_icmp .eq 14, 3) := by decide +kernel
theorem dX9_sumOf_21 : decode cX9_sumOf 21 = .ok (.aload_n 0, 1) := by decide +kernel
theorem dX9_sumOf_22 : decode cX9_sumOf 22 = .ok (.getfield 54, 3) := by decide +kernel
theorem dX9_sumOf_25 : decode cX9_sumOf 25 = .ok (.iload 5, 2) := by decide +kernel
theorem dX9_sumOf_27 : decode cX9_sumOf 27 = .ok (.iaload, 1) := by decide +kernel
theorem dX9_sumOf_28 : decode cX9_sumOf 28 = .ok (.iload_n 1, 1) := by decide +kernel
theorem dX9_sumOf_29 : decode cX9_sumOf 29 = .ok (.if_icmp .ne 74, 3) := by decide +kernel
theorem dX9_sumOf_32 : decode cX9_sumOf 32 = .ok (.iload_n 2, 1) := by decide +kernel
theorem dX9_sumOf_33 : decode cX9_sumOf 33 = .ok (.bipush (-9), 2) := by decide +kernel
theorem dX9_sumOf_35 : decode cX9_sumOf 35 = .ok (.if_icmp .eq 14, 3) := by decide +kernel
theorem dX9_sumOf_38 : decode cX9_sumOf 38 = .ok (.aload_n 0, 1) := by decide +kernel
theorem dX9_sumOf_39 : decode cX9_sumOf 39 = .ok (.getfield 57, 3) := by decide +kernel
theorem dX9_sumOf_42 : decode cX9_sumOf 42 = .ok (.iload 5, 2) := by decide +kernel
theorem dX9_sumOf_44 : decode cX9_sumOf 44 = .ok (.iaload, 1) := by decide +kernel
theorem dX9_sumOf_45 : decode cX9_sumOf 45 = .ok (.iload_n 2, 1) := by decide +kernel
theorem dX9_sumOf_46 : decode cX9_sumOf 46 = .ok (.if_icmp .ne 57, 3) := by decide +kernel
theorem dX9_sumOf_49 : decode cX9_sumOf 49 = .ok (.iload 4, 2) := by decide +kernel
theorem dX9_sumOf_51 : decode cX9_sumOf 51 = .ok (.iload_n 3, 1) := by decide +kernel
theorem dX9_sumOf_52 : decode cX9_sumOf 52 = .ok (.ifCond .ne 26, 3) := by decide +kernel
theorem dX9_sumOf_55 : decode cX9_sumOf 55 = .ok (.aload_n 0, 1) := by decide +kernel
theorem dX9_sumOf_56 : decode cX9_sumOf 56 = .ok (.getfield 60, 3) := by decide +kernel
theorem dX9_sumOf_59 : decode cX9_sumOf 59 = .ok (.iload 5, 2) := by decide +kernel
theorem dX9_sumOf_61 : decode cX9_sumOf 61 = .ok (.iaload, 1) := by decide +kernel
theorem dX9_sumOf_62 : decode cX9_sumOf 62 = .ok (.aload_n 0, 1) := by decide +kernel
theorem dX9_sumOf_63 : decode cX9_sumOf 63 = .ok (.getfield 19, 3) := by decide +kernel
theorem dX9_sumOf_66 : decode cX9_sumOf 66 = .ok (.aload_n 0, 1) := by decide +kernel
theorem dX9_sumOf_67 : decode cX9_sumOf 67 = .ok (.getfield 57, 3) := by decide +kernel
theorem dX9_sumOf_70 : decode cX9_sumOf 70 = .ok (.iload 5, 2) := by decide +kernel
theorem dX9_sumOf_72 : decode cX9_sumOf 72 = .ok (.iaload, 1) := by decide +kernel
theorem dX9_sumOf_73 : decode cX9_sumOf 73 = .ok (.iaload, 1) := by decide +kernel
theorem dX9_sumOf_74 : decode cX9_sumOf 74 = .ok (.imul, 1) := by decide +kernel
theorem dX9_sumOf_75 : decode cX9_sumOf 75 = .ok (.goto 25, 3) := by decide +kernel
theorem dX9_sumOf_78 : decode cX9_sumOf 78 = .ok (.iload_n 3, 1) := by decide +kernel
theorem dX9_sumOf_79 : decode cX9_sumOf 79 = .ok (.iconst 1, 1) := by decide +kernel
theorem dX9_sumOf_80 : decode cX9_sumOf 80 = .ok (.if_icmp .ne 13, 3) := by decide +kernel
theorem dX9_sumOf_83 : decode cX9_sumOf 83 = .ok (.aload_n 0, 1) := by decide +kernel
theorem dX9_sumOf_84 : decode cX9_sumOf 84 = .ok (.getfield 63, 3) := by decide +kernel
theorem dX9_sumOf_87 : decode cX9_sumOf 87 = .ok (.iload 5, 2) := by decide +kernel
theorem dX9_sumOf_89 : decode cX9_sumOf 89 = .ok (.iaload, 1) := by decide +kernel
theorem dX9_sumOf_90 : decode cX9_sumOf 90 = .ok (.goto 10, 3) := by decide +kernel
theorem dX9_sumOf_93 : decode cX9_sumOf 93 = .ok (.aload_n 0, 1) := by decide +kernel
theorem dX9_sumOf_94 : decode cX9_sumOf 94 = .ok (.getfield 60, 3) := by decide +kernel
theorem dX9_sumOf_97 : decode cX9_sumOf 97 = .ok (.iload 5, 2) := by decide +kernel
theorem dX9_sumOf_99 : decode cX9_sumOf 99 = .ok (.iaload, 1) := by decide +kernel
theorem dX9_sumOf_100 : decode cX9_sumOf 100 = .ok (.iadd, 1) := by decide +kernel
theorem dX9_sumOf_101 : decode cX9_sumOf 101 = .ok (.istore 4, 2) := by decide +kernel
theorem dX9_sumOf_103 : decode cX9_sumOf 103 = .ok (.iinc 5 1, 3) := by decide +kernel
theorem dX9_sumOf_106 : decode cX9_sumOf 106 = .ok (.goto (-100), 3) := by decide +kernel
theorem dX9_sumOf_109 : decode cX9_sumOf 109 = .ok (.iload 4, 2) := by decide +kernel
theorem dX9_sumOf_111 : decode cX9_sumOf 111 = .ok (.ireturn, 1) := by decide +kernel
theorem dX9_person_0 : decode cX9_person 0 = .ok (.aload_n 0, 1) := by decide +kernel
theorem dX9_person_1 : decode cX9_person 1 = .ok (.iconst 0, 1) := by decide +kernel
theorem dX9_person_2 : decode cX9_person 2 = .ok (.putfield 117, 3) := by decide +kernel
theorem dX9_person_5 : decode cX9_person 5 = .ok (.aload_n 0, 1) := by decide +kernel
theorem dX9_person_6 : decode cX9_person 6 = .ok (.iload_n 1, 1) := by decide +kernel
theorem dX9_person_7 : decode cX9_person 7 = .ok (.invokevirtual 180, 3) := by decide +kernel
theorem dX9_person_10 : decode cX9_person 10 = .ok (.ifCond .eq 5, 3) := by decide +kernel
theorem dX9_person_13 : decode cX9_person 13 = .ok (.iconst (-1), 1) := by decide +kernel
theorem dX9_person_14 : decode cX9_person 14 = .ok (.ireturn, 1) := by decide +kernel
theorem dX9_person_15 : decode cX9_person 15 = .ok (.iload_n 2, 1) := by decide +kernel
theorem dX9_person_16 : decode cX9_person 16 = .ok (.tableswitch 94 0 5 #[40, 47, 54, 63, 72, 79], 40) := by decide +kernel
theorem dX9_person_56 : decode cX9_person 56 = .ok (.aload_n 0, 1) := by decide +kernel
theorem dX9_person_57 : decode cX9_person 57 = .ok (.getfield 13, 3) := by decide +kernel
theorem dX9_person_60 : decode cX9_person 60 = .ok (.iload_n 1, 1) := by decide +kernel
theorem dX9_person_61 : decode cX9_person 61 = .ok (.iaload, 1) := by decide +kernel
theorem dX9_person_62 : decode cX9_person 62 = .ok (.ireturn, 1) := by decide +kernel
theorem dX9_person_63 : decode cX9_person 63 = .ok (.aload_n 0, 1) := by decide +kernel
theorem dX9_person_64 : decode cX9_person 64 = .ok (.getfield 16, 3) := by decide +kernel
theorem dX9_person_67 : decode cX9_person 67 = .ok (.iload_n 1, 1) := by decide +kernel
theorem dX9_person_68 : decode cX9_person 68 = .ok (.iaload, 1) := by decide +kernel
theorem dX9_person_69 : decode cX9_person 69 = .ok (.ireturn, 1) := by decide +kernel
theorem dX9_person_70 : decode cX9_person 70 = .ok (.aload_n 0, 1) := by decide +kernel
theorem dX9_person_71 : decode cX9_person 71 = .ok (.iload_n 1, 1) := by decide +kernel
theorem dX9_person_72 : decode cX9_person 72 = .ok (.bipush (-9), 2) := by decide +kernel
theorem dX9_person_74 : decode cX9_person 74 = .ok (.iconst 0, 1) := by decide +kernel
theorem dX9_person_75 : decode cX9_person 75 = .ok (.invokevirtual 183, 3) := by decide +kernel
theorem dX9_person_78 : decode cX9_person 78 = .ok (.ireturn, 1) := by decide +kernel
theorem dX9_person_79 : decode cX9_person 79 = .ok (.aload_n 0, 1) := by decide +kernel
theorem dX9_person_80 : decode cX9_person 80 = .ok (.iload_n 1, 1) := by decide +kernel
theorem dX9_person_81 : decode cX9_person 81 = .ok (.bipush (-9), 2) := by decide +kernel
theorem dX9_person_83 : decode cX9_person 83 = .ok (.iconst 1, 1) := by decide +kernel
theorem dX9_person_84 : decode cX9_person 84 = .ok (.invokevirtual 183, 3) := by decide +kernel
theorem dX9_person_87 : decode cX9_person 87 = .ok (.ireturn, 1) := by decide +kernel
theorem dX9_person_88 : decode cX9_person 88 = .ok (.aload_n 0, 1) := by decide +kernel
theorem dX9_person_89 : decode cX9_person 89 = .ok (.getfield 29, 3) := by decide +kernel
theorem dX9_person_92 : decode cX9_person 92 = .ok (.iload_n 1, 1) := by decide +kernel
theorem dX9_person_93 : decode cX9_person 93 = .ok (.iaload, 1) := by decide +kernel
theorem dX9_person_94 : decode cX9_person 94 = .ok (.ireturn, 1) := by decide +kernel
theorem dX9_person_95 : decode cX9_person 95 = .ok (.aload_n 0, 1) := by decide +kernel
theorem dX9_person_96 : decode cX9_person 96 = .ok (.getfield 32, 3) := by decide +kernel
theorem dX9_person_99 : decode cX9_person 99 = .ok (.iload_n 1, 1) := by decide +kernel
theorem dX9_person_100 : decode cX9_person 100 = .ok (.baload, 1) := by decide +kernel
theorem dX9_person_101 : decode cX9_person 101 = .ok (.ifCond .eq 7, 3) := by decide +kernel
theorem dX9_person_104 : decode cX9_person 104 = .ok (.iconst 1, 1) := by decide +kernel
theorem dX9_person_105 : decode cX9_person 105 = .ok (.goto 4, 3) := by decide +kernel
theorem dX9_person_108 : decode cX9_person 108 = .ok (.iconst 0, 1) := by decide +kernel
theorem dX9_person_109 : decode cX9_person 109 = .ok (.ireturn, 1) := by decide +kernel
theorem dX9_person_110 : decode cX9_person 110 = .ok (.bipush (-2), 2) := by decide +kernel
theorem dX9_person_112 : decode cX9_person 112 = .ok (.ireturn, 1) := by decide +kernel
theorem dX9_counter_0 : decode cX9_counter 0 = .ok (.aload_n 0, 1) := by decide +kernel
theorem dX9_counter_1 : decode cX9_counter 1 = .ok (.iconst 0, 1) := by decide +kernel
theorem dX9_counter_2 : decode cX9_counter 2 = .ok (.putfield 117, 3) := by decide +kernel
theorem dX9_counter_5 : decode cX9_counter 5 = .ok (.aload_n 0, 1) := by decide +kernel
theorem dX9_counter_6 : decode cX9_counter 6 = .ok (.iload_n 1, 1) := by decide +kernel
theorem dX9_counter_7 : decode cX9_counter 7 = .ok (.invokevirtual 187, 3) := by decide +kernel
theorem dX9_counter_10 : decode cX9_counter 10 = .ok (.ifCond .eq 5, 3) := by decide +kernel
theorem dX9_counter_13 : decode cX9_counter 13 = .ok (.iconst (-1), 1) := by decide +kernel
theorem dX9_counter_14 : decode cX9_counter 14 = .ok (.ireturn, 1) := by decide +kernel
theorem dX9_counter_15 : decode cX9_counter 15 = .ok (.iload_n 2, 1) := by decide +kernel
theorem dX9_counter_16 : decode cX9_counter 16 = .ok (.tableswitch 94 0 4 #[36, 43, 50, 59, 68], 36) := by decide +kernel
theorem dX9_counter_52 : decode cX9_counter 52 = .ok (.aload_n 0, 1) := by decide +kernel
theorem dX9_counter_53 : decode cX9_counter 53 = .ok (.getfield 19, 3) := by decide +kernel
theorem dX9_counter_56 : decode cX9_counter 56 = .ok (.iload_n 1, 1) := by decide +kernel
theorem dX9_counter_57 : decode cX9_counter 57 = .ok (.iaload, 1) := by decide +kernel
theorem dX9_counter_58 : decode cX9_counter 58 = .ok (.ireturn, 1) := by decide +kernel
theorem dX9_counter_59 : decode cX9_counter 59 = .ok (.aload_n 0, 1) := by decide +kernel
theorem dX9_counter_60 : decode cX9_counter 60 = .ok (.getfield 22, 3) := by decide +kernel
theorem dX9_counter_63 : decode cX9_counter 63 = .ok (.iload_n 1, 1) := by decide +kernel
theorem dX9_counter_64 : decode cX9_counter 64 = .ok (.iaload, 1) := by decide +kernel
theorem dX9_counter_65 : decode cX9_counter 65 = .ok (.ireturn, 1) := by decide +kernel
theorem dX9_counter_66 : decode cX9_counter 66 = .ok (.aload_n 0, 1) := by decide +kernel
theorem dX9_counter_67 : decode cX9_counter 67 = .ok (.bipush (-9), 2) := by decide +kernel
theorem dX9_counter_69 : decode cX9_counter 69 = .ok (.iload_n 1, 1) := by decide +kernel
theorem dX9_counter_70 : decode cX9_counter 70 = .ok (.iconst 0, 1) := by decide +kernel
theorem dX9_counter_71 : decode cX9_counter 71 = .ok (.invokevirtual 183, 3) := by decide +kernel
theorem dX9_counter_74 : decode cX9_counter 74 = .ok (.ireturn, 1) := by decide +kernel
theorem dX9_counter_75 : decode cX9_counter 75 = .ok (.aload_n 0, 1) := by decide +kernel
theorem dX9_counter_76 : decode cX9_counter 76 = .ok (.bipush (-9), 2) := by decide +kernel
theorem dX9_counter_78 : decode cX9_counter 78 = .ok (.iload_n 1, 1) := by decide +kernel
theorem dX9_counter_79 : decode cX9_counter 79 = .ok (.iconst 2, 1) := by decide +kernel
theorem dX9_counter_80 : decode cX9_counter 80 = .ok (.invokevirtual 183, 3) := by decide +kernel
theorem dX9_counter_83 : decode cX9_counter 83 = .ok (.ireturn, 1) := by decide +kernel
theorem dX9_counter_84 : decode cX9_counter 84 = .ok (.ldc 190, 2) := by decide +kernel
theorem dX9_counter_86 : decode cX9_counter 86 = .ok (.aload_n 0, 1) := by decide +kernel
theorem dX9_counter_87 : decode cX9_counter 87 = .ok (.bipush (-9), 2) := by decide +kernel
theorem dX9_counter_89 : decode cX9_counter 89 = .ok (.iload_n 1, 1) := by decide +kernel
theorem dX9_counter_90 : decode cX9_counter 90 = .ok (.iconst 1, 1) := by decide +kernel
theorem dX9_counter_91 : decode cX9_counter 91 = .ok (.invokevirtual 183, 3) := by decide +kernel
theorem dX9_counter_94 : decode cX9_counter 94 = .ok (.iadd, 1) := by decide +kernel
theorem dX9_counter_95 : decode cX9_counter 95 = .ok (.aload_n 0, 1) := by decide +kernel
theorem dX9_counter_96 : decode cX9_counter 96 = .ok (.bipush (-9), 2) := by decide +kernel
theorem dX9_counter_98 : decode cX9_counter 98 = .ok (.iload_n 1, 1) := by decide +kernel
theorem dX9_counter_99 : decode cX9_counter 99 = .ok (.iconst 2, 1) := by decide +kernel
theorem dX9_counter_100 : decode cX9_counter 100 = .ok (.invokevirtual 183, 3) := by decide +kernel
theorem dX9_counter_103 : decode cX9_counter 103 = .ok (.aload_n 0, 1) := by decide +kernel
theorem dX9_counter_104 : decode cX9_counter 104 = .ok (.getfield 35, 3) := by decide +kernel
theorem dX9_counter_107 : decode cX9_counter 107 = .ok (.imul, 1) := by decide +kernel
theorem dX9_counter_108 : decode cX9_counter 108 = .ok (.isub, 1) := by decide +kernel
theorem dX9_counter_109 : decode cX9_counter 109 = .ok (.ireturn, 1) := by decide +kernel
theorem dX9_counter_110 : decode cX9_counter 110 = .ok (.bipush (-2), 2) := by decide +kernel
theorem dX9_counter_112 : decode cX9_counter 112 = .ok (.ireturn, 1) := by decide +kernel
theorem dX9_barred_0 : decode cX9_barred 0 = .ok (.aload_n 0, 1) := by decide +kernel
theorem dX9_barred_1 : decode cX9_barred 1 = .ok (.iconst 0, 1) := by decide +kernel
theorem dX9_barred_2 : decode cX9_barred 2 = .ok (.putfield 117, 3) := by decide +kernel
theorem dX9_barred_5 : decode cX9_barred 5 = .ok (.aload_n 0, 1) := by decide +kernel
theorem dX9_barred_6 : decode cX9_barred 6 = .ok (.iload_n 1, 1) := by decide +kernel
theorem dX9_barred_7 : decode cX9_barred 7 = .ok (.invokevirtual 180, 3) := by decide +kernel
theorem dX9_barred_10 : decode cX9_barred 10 = .ok (.ifCond .ne 11, 3) := by decide +kernel
theorem dX9_barred_13 : decode cX9_barred 13 = .ok (.aload_n 0, 1) := by decide +kernel
theorem dX9_barred_14 : decode cX9_barred 14 = .ok (.iload_n 2, 1) := by decide +kernel
theorem dX9_barred_15 : decode cX9_barred 15 = .ok (.invokevirtual 187, 3) := by decide +kernel
theorem dX9_barred_18 : decode cX9_barred 18 = .ok (.ifCond .eq 5, 3) := by decide +kernel
theorem dX9_barred_21 : decode cX9_barred 21 = .ok (.iconst (-1), 1) := by decide +kernel
theorem dX9_barred_22 : decode cX9_barred 22 = .ok (.ireturn, 1) := by decide +kernel
theorem dX9_barred_23 : decode cX9_barred 23 = .ok (.aload_n 0, 1) := by decide +kernel
theorem dX9_barred_24 : decode cX9_barred 24 = .ok (.getfield 25, 3) := by decide +kernel
theorem dX9_barred_27 : decode cX9_barred 27 = .ok (.iconst 4, 1) := by decide +kernel
theorem dX9_barred_28 : decode cX9_barred 28 = .ok (.iload_n 1, 1) := by decide +kernel
theorem dX9_barred_29 : decode cX9_barred 29 = .ok (.imul, 1) := by decide +kernel
theorem dX9_barred_30 : decode cX9_barred 30 = .ok (.iload_n 2, 1) := by decide +kernel
theorem dX9_barred_31 : decode cX9_barred 31 = .ok (.iadd, 1) := by decide +kernel
theorem dX9_barred_32 : decode cX9_barred 32 = .ok (.baload, 1) := by decide +kernel
theorem dX9_barred_33 : decode cX9_barred 33 = .ok (.ifCond .eq 7, 3) := by decide +kernel
theorem dX9_barred_36 : decode cX9_barred 36 = .ok (.iconst 1, 1) := by decide +kernel
theorem dX9_barred_37 : decode cX9_barred 37 = .ok (.goto 4, 3) := by decide +kernel
theorem dX9_barred_40 : decode cX9_barred 40 = .ok (.iconst 0, 1) := by decide +kernel
theorem dX9_barred_41 : decode cX9_barred 41 = .ok (.ireturn, 1) := by decide +kernel
theorem dX9_plaster_0 : decode cX9_plaster 0 = .ok (.aload_n 0, 1) := by decide +kernel
theorem dX9_plaster_1 : decode cX9_plaster 1 = .ok (.iconst 0, 1) := by decide +kernel
theorem dX9_plaster_2 : decode cX9_plaster 2 = .ok (.putfield 117, 3) := by decide +kernel
theorem dX9_plaster_5 : decode cX9_plaster 5 = .ok (.aload_n 0, 1) := by decide +kernel
theorem dX9_plaster_6 : decode cX9_plaster 6 = .ok (.iload_n 1, 1) := by decide +kernel
theorem dX9_plaster_7 : decode cX9_plaster 7 = .ok (.invokevirtual 180, 3) := by decide +kernel
theorem dX9_plaster_10 : decode cX9_plaster 10 = .ok (.ifCond .eq 5, 3) := by decide +kernel
theorem dX9_plaster_13 : decode cX9_plaster 13 = .ok (.iconst (-1), 1) := by decide +kernel
theorem dX9_plaster_14 : decode cX9_plaster 14 = .ok (.ireturn, 1) := by decide +kernel
theorem dX9_plaster_15 : decode cX9_plaster 15 = .ok (.iload_n 2, 1) := by decide +kernel
theorem dX9_plaster_16 : decode cX9_plaster 16 = .ok (.i2l, 1) := by decide +kernel
theorem dX9_plaster_17 : decode cX9_plaster 17 = .ok (.lconst 1, 1) := by decide +kernel
theorem dX9_plaster_18 : decode cX9_plaster 18 = .ok (.ldc2_w 191, 3) := by decide +kernel
theorem dX9_plaster_21 : decode cX9_plaster 21 = .ok (.invokestatic 123, 3) := by decide +kernel
theorem dX9_plaster_24 : decode cX9_plaster 24 = .ok (.ifCond .ne 6, 3) := by decide +kernel
theorem dX9_plaster_27 : decode cX9_plaster 27 = .ok (.bipush (-2), 2) := by decide +kernel
theorem dX9_plaster_29 : decode cX9_plaster 29 = .ok (.ireturn, 1) := by decide +kernel
theorem dX9_plaster_30 : decode cX9_plaster 30 = .ok (.aload_n 0, 1) := by decide +kernel
theorem dX9_plaster_31 : decode cX9_plaster 31 = .ok (.getfield 13, 3) := by decide +kernel
theorem dX9_plaster_34 : decode cX9_plaster 34 = .ok (.iload_n 1, 1) := by decide +kernel
theorem dX9_plaster_35 : decode cX9_plaster 35 = .ok (.iaload, 1) := by decide +kernel
theorem dX9_plaster_36 : decode cX9_plaster 36 = .ok (.istore_n 3, 1) := by decide +kernel
theorem dX9_plaster_37 : decode cX9_plaster 37 = .ok (.aload_n 0, 1) := by decide +kernel
theorem dX9_plaster_38 : decode cX9_plaster 38 = .ok (.getfield 13, 3) := by decide +kernel
theorem dX9_plaster_41 : decode cX9_plaster 41 = .ok (.iload_n 1, 1) := by decide +kernel
theorem dX9_plaster_42 : decode cX9_plaster 42 = .ok (.iload_n 2, 1) := by decide +kernel
theorem dX9_plaster_43 : decode cX9_plaster 43 = .ok (.iastore, 1) := by decide +kernel
theorem dX9_plaster_44 : decode cX9_plaster 44 = .ok (.iload_n 3, 1) := by decide +kernel
theorem dX9_plaster_45 : decode cX9_plaster 45 = .ok (.ireturn, 1) := by decide +kernel
theorem dX9_common_0 : decode cX9_common 0 = .ok (.aload_n 0, 1) := by decide +kernel
theorem dX9_common_1 : decode cX9_common 1 = .ok (.iconst 0, 1) := by decide +kernel
theorem dX9_common_2 : decode cX9_common 2 = .ok (.putfield 117, 3) := by decide +kernel
theorem dX9_common_5 : decode cX9_common 5 = .ok (.iload_n 1, 1) := by decide +kernel
theorem dX9_common_6 : decode cX9_common 6 = .ok (.i2l, 1) := by decide +kernel
theorem dX9_common_7 : decode cX9_common 7 = .ok (.lconst 1, 1) := by decide +kernel
theorem dX9_common_8 : decode cX9_common 8 = .ok (.ldc2_w 191, 3) := by decide +kernel
theorem dX9_common_11 : decode cX9_common 11 = .ok (.invokestatic 123, 3) := by decide +kernel
theorem dX9_common_14 : decode cX9_common 14 = .ok (.ifCond .ne 6, 3) := by decide +kernel
theorem dX9_common_17 : decode cX9_common 17 = .ok (.bipush (-2), 2) := by decide +kernel
theorem dX9_common_19 : decode cX9_common 19 = .ok (.ireturn, 1) := by decide +kernel
theorem dX9_common_20 : decode cX9_common 20 = .ok (.aload_n 0, 1) := by decide +kernel
theorem dX9_common_21 : decode cX9_common 21 = .ok (.getfield 35, 3) := by decide +kernel
theorem dX9_common_24 : decode cX9_common 24 = .ok (.istore_n 2, 1) := by decide +kernel
theorem dX9_common_25 : decode cX9_common 25 = .ok (.aload_n 0, 1) := by decide +kernel
theorem dX9_common_26 : decode cX9_common 26 = .ok (.iload_n 1, 1) := by decide +kernel
theorem dX9_common_27 : decode cX9_common 27 = .ok (.putfield 35, 3) := by decide +kernel
theorem dX9_common_30 : decode cX9_common 30 = .ok (.iload_n 2, 1) := by decide +kernel
theorem dX9_common_31 : decode cX9_common 31 = .ok (.ireturn, 1) := by decide +kernel
theorem dX9_buy_0 : decode cX9_buy 0 = .ok (.aload_n 0, 1) := by decide +kernel
theorem dX9_buy_1 : decode cX9_buy 1 = .ok (.iconst 0, 1) := by decide +kernel
theorem dX9_buy_2 : decode cX9_buy 2 = .ok (.putfield 117, 3) := by decide +kernel
theorem dX9_buy_5 : decode cX9_buy 5 = .ok (.aload_n 0, 1) := by decide +kernel
theorem dX9_buy_6 : decode cX9_buy 6 = .ok (.iload_n 1, 1) := by decide +kernel
theorem dX9_buy_7 : decode cX9_buy 7 = .ok (.invokevirtual 180, 3) := by decide +kernel
theorem dX9_buy_10 : decode cX9_buy 10 = .ok (.ifCond .ne 11, 3) := by decide +kernel
theorem dX9_buy_13 : decode cX9_buy 13 = .ok (.aload_n 0, 1) := by decide +kernel
theorem dX9_buy_14 : decode cX9_buy 14 = .ok (.iload_n 2, 1) := by decide +kernel
theorem dX9_buy_15 : decode cX9_buy 15 = .ok (.invokevirtual 187, 3) := by decide +kernel
theorem dX9_buy_18 : decode cX9_buy 18 = .ok (.ifCond .eq 5, 3) := by decide +kernel
theorem dX9_buy_21 : decode cX9_buy 21 = .ok (.iconst (-1), 1) := by decide +kernel
theorem dX9_buy_22 : decode cX9_buy 22 = .ok (.ireturn, 1) := by decide +kernel
theorem dX9_buy_23 : decode cX9_buy 23 = .ok (.iload_n 3, 1) := by decide +kernel
theorem dX9_buy_24 : decode cX9_buy 24 = .ok (.i2l, 1) := by decide +kernel
theorem dX9_buy_25 : decode cX9_buy 25 = .ok (.lconst 1, 1) := by decide +kernel
theorem dX9_buy_26 : decode cX9_buy 26 = .ok (.ldc2_w 191, 3) := by decide +kernel
theorem dX9_buy_29 : decode cX9_buy 29 = .ok (.invokestatic 123, 3) := by decide +kernel
theorem dX9_buy_32 : decode cX9_buy 32 = .ok (.ifCond .ne 6, 3) := by decide +kernel
theorem dX9_buy_35 : decode cX9_buy 35 = .ok (.bipush (-2), 2) := by decide +kernel
theorem dX9_buy_37 : decode cX9_buy 37 = .ok (.ireturn, 1) := by decide +kernel
theorem dX9_buy_38 : decode cX9_buy 38 = .ok (.aload_n 0, 1) := by decide +kernel
theorem dX9_buy_39 : decode cX9_buy 39 = .ok (.getfield 25, 3) := by decide +kernel
theorem dX9_buy_42 : decode cX9_buy 42 = .ok (.iconst 4, 1) := by decide +kernel
theorem dX9_buy_43 : decode cX9_buy 43 = .ok (.iload_n 1, 1) := by decide +kernel
theorem dX9_buy_44 : decode cX9_buy 44 = .ok (.imul, 1) := by decide +kernel
theorem dX9_buy_45 : decode cX9_buy 45 = .ok (.iload_n 2, 1) := by decide +kernel
theorem dX9_buy_46 : decode cX9_buy 46 = .ok (.iadd, 1) := by decide +kernel
theorem dX9_buy_47 : decode cX9_buy 47 = .ok (.baload, 1) := by decide +kernel
theorem dX9_buy_48 : decode cX9_buy 48 = .ok (.ifCond .ne 20, 3) := by decide +kernel
theorem dX9_buy_51 : decode cX9_buy 51 = .ok (.iload_n 3, 1) := by decide +kernel
theorem dX9_buy_52 : decode cX9_buy 52 = .ok (.aload_n 0, 1) := by decide +kernel
theorem dX9_buy_53 : decode cX9_buy 53 = .ok (.getfield 13, 3) := by decide +kernel
theorem dX9_buy_56 : decode cX9_buy 56 = .ok (.iload_n 1, 1) := by decide +kernel
theorem dX9_buy_57 : decode cX9_buy 57 = .ok (.iaload, 1) := by decide +kernel
theorem dX9_buy_58 : decode cX9_buy 58 = .ok (.imul, 1) := by decide +kernel
theorem dX9_buy_59 : decode cX9_buy 59 = .ok (.aload_n 0, 1) := by decide +kernel
theorem dX9_buy_60 : decode cX9_buy 60 = .ok (.getfield 22, 3) := by decide +kernel
theorem dX9_buy_63 : decode cX9_buy 63 = .ok (.iload_n 2, 1) := by decide +kernel
theorem dX9_buy_64 : decode cX9_buy 64 = .ok (.iaload, 1) := by decide +kernel
theorem dX9_buy_65 : decode cX9_buy 65 = .ok (.if_icmp .le 6, 3) := by decide +kernel
theorem dX9_buy_68 : decode cX9_buy 68 = .ok (.bipush (-3), 2) := by decide +kernel
theorem dX9_buy_70 : decode cX9_buy 70 = .ok (.ireturn, 1) := by decide +kernel
theorem dX9_buy_71 : decode cX9_buy 71 = .ok (.aload_n 0, 1) := by decide +kernel
theorem dX9_buy_72 : decode cX9_buy 72 = .ok (.getfield 177, 3) := by decide +kernel
theorem dX9_buy_75 : decode cX9_buy 75 = .ok (.bipush 12, 2) := by decide +kernel
theorem dX9_buy_77 : decode cX9_buy 77 = .ok (.if_icmp .ne 6, 3) := by decide +kernel
theorem dX9_buy_80 : decode cX9_buy 80 = .ok (.bipush (-4), 2) := by decide +kernel
theorem dX9_buy_82 : decode cX9_buy 82 = .ok (.ireturn, 1) := by decide +kernel
theorem dX9_buy_83 : decode cX9_buy 83 = .ok (.aload_n 0, 1) := by decide +kernel
theorem dX9_buy_84 : decode cX9_buy 84 = .ok (.getfield 54, 3) := by decide +kernel
theorem dX9_buy_87 : decode cX9_buy 87 = .ok (.aload_n 0, 1) := by decide +kernel
theorem dX9_buy_88 : decode cX9_buy 88 = .ok (.getfield 177, 3) := by decide +kernel
theorem dX9_buy_91 : decode cX9_buy 91 = .ok (.iload_n 1, 1) := by decide +kernel
theorem dX9_buy_92 : decode cX9_buy 92 = .ok (.iastore, 1) := by decide +kernel
theorem dX9_buy_93 : decode cX9_buy 93 = .ok (.aload_n 0, 1) := by decide +kernel
theorem dX9_buy_94 : decode cX9_buy 94 = .ok (.getfield 57, 3) := by decide +kernel
theorem dX9_buy_97 : decode cX9_buy 97 = .ok (.aload_n 0, 1) := by decide +kernel
theorem dX9_buy_98 : decode cX9_buy 98 = .ok (.getfield 177, 3) := by decide +kernel
theorem dX9_buy_101 : decode cX9_buy 101 = .ok (.iload_n 2, 1) := by decide +kernel
theorem dX9_buy_102 : decode cX9_buy 102 = .ok (.iastore, 1) := by decide +kernel
theorem dX9_buy_103 : decode cX9_buy 103 = .ok (.aload_n 0, 1) := by decide +kernel
theorem dX9_buy_104 : decode cX9_buy 104 = .ok (.getfield 60, 3) := by decide +kernel
theorem dX9_buy_107 : decode cX9_buy 107 = .ok (.aload_n 0, 1) := by decide +kernel
theorem dX9_buy_108 : decode cX9_buy 108 = .ok (.getfield 177, 3) := by decide +kernel
theorem dX9_buy_111 : decode cX9_buy 111 = .ok (.iload_n 3, 1) := by decide +kernel
theorem dX9_buy_112 : decode cX9_buy 112 = .ok (.iastore, 1) := by decide +kernel
theorem dX9_buy_113 : decode cX9_buy 113 = .ok (.aload_n 0, 1) := by decide +kernel
theorem dX9_buy_114 : decode cX9_buy 114 = .ok (.getfield 63, 3) := by decide +kernel
theorem dX9_buy_117 : decode cX9_buy 117 = .ok (.aload_n 0, 1) := by decide +kernel
theorem dX9_buy_118 : decode cX9_buy 118 = .ok (.getfield 177, 3) := by decide +kernel
theorem dX9_buy_121 : decode cX9_buy 121 = .ok (.iload_n 3, 1) := by decide +kernel
theorem dX9_buy_122 : decode cX9_buy 122 = .ok (.aload_n 0, 1) := by decide +kernel
theorem dX9_buy_123 : decode cX9_buy 123 = .ok (.getfield 13, 3) := by decide +kernel
theorem dX9_buy_126 : decode cX9_buy 126 = .ok (.iload_n 1, 1) := by decide +kernel
theorem dX9_buy_127 : decode cX9_buy 127 = .ok (.iaload, 1) := by decide +kernel
theorem dX9_buy_128 : decode cX9_buy 128 = .ok (.imul, 1) := by decide +kernel
theorem dX9_buy_129 : decode cX9_buy 129 = .ok (.iastore, 1) := by decide +kernel
theorem dX9_buy_130 : decode cX9_buy 130 = .ok (.aload_n 0, 1) := by decide +kernel
theorem dX9_buy_131 : decode cX9_buy 131 = .ok (.getfield 22, 3) := by decide +kernel
theorem dX9_buy_134 : decode cX9_buy 134 = .ok (.iload_n 2, 1) := by decide +kernel
theorem dX9_buy_135 : decode cX9_buy 135 = .ok (.dup2, 1) := by decide +kernel
theorem dX9_buy_136 : decode cX9_buy 136 = .ok (.iaload, 1) := by decide +kernel
theorem dX9_buy_137 : decode cX9_buy 137 = .ok (.iload_n 3, 1) := by decide +kernel
theorem dX9_buy_138 : decode cX9_buy 138 = .ok (.aload_n 0, 1) := by decide +kernel
theorem dX9_buy_139 : decode cX9_buy 139 = .ok (.getfield 13, 3) := by decide +kernel
theorem dX9_buy_142 : decode cX9_buy 142 = .ok (.iload_n 1, 1) := by decide +kernel
theorem dX9_buy_143 : decode cX9_buy 143 = .ok (.iaload, 1) := by decide +kernel
theorem dX9_buy_144 : decode cX9_buy 144 = .ok (.imul, 1) := by decide +kernel
theorem dX9_buy_145 : decode cX9_buy 145 = .ok (.isub, 1) := by decide +kernel
theorem dX9_buy_146 : decode cX9_buy 146 = .ok (.iastore, 1) := by decide +kernel
theorem dX9_buy_147 : decode cX9_buy 147 = .ok (.aload_n 0, 1) := by decide +kernel
theorem dX9_buy_148 : decode cX9_buy 148 = .ok (.dup, 1) := by decide +kernel
theorem dX9_buy_149 : decode cX9_buy 149 = .ok (.getfield 177, 3) := by decide +kernel
theorem dX9_buy_152 : decode cX9_buy 152 = .ok (.iconst 1, 1) := by decide +kernel
theorem dX9_buy_153 : decode cX9_buy 153 = .ok (.iadd, 1) := by decide +kernel
theorem dX9_buy_154 : decode cX9_buy 154 = .ok (.putfield 177, 3) := by decide +kernel
theorem dX9_buy_157 : decode cX9_buy 157 = .ok (.iload_n 3, 1) := by decide +kernel
theorem dX9_buy_158 : decode cX9_buy 158 = .ok (.aload_n 0, 1) := by decide +kernel
theorem dX9_buy_159 : decode cX9_buy 159 = .ok (.getfield 13, 3) := by decide +kernel
theorem dX9_buy_162 : decode cX9_buy 162 = .ok (.iload_n 1, 1) := by decide +kernel
theorem dX9_buy_163 : decode cX9_buy 163 = .ok (.iaload, 1) := by decide +kernel
theorem dX9_buy_164 : decode cX9_buy 164 = .ok (.imul, 1) := by decide +kernel
theorem dX9_buy_165 : decode cX9_buy 165 = .ok (.ireturn, 1) := by decide +kernel
theorem dX9_undo_0 : decode cX9_undo 0 = .ok (.aload_n 0, 1) := by decide +kernel
theorem dX9_undo_1 : decode cX9_undo 1 = .ok (.iconst 0, 1) := by decide +kernel
theorem dX9_undo_2 : decode cX9_undo 2 = .ok (.putfield 117, 3) := by decide +kernel
theorem dX9_undo_5 : decode cX9_undo 5 = .ok (.aload_n 0, 1) := by decide +kernel
theorem dX9_undo_6 : decode cX9_undo 6 = .ok (.getfield 177, 3) := by decide +kernel
theorem dX9_undo_9 : decode cX9_undo 9 = .ok (.ifCond .ne 6, 3) := by decide +kernel
theorem dX9_undo_12 : decode cX9_undo 12 = .ok (.bipush (-3), 2) := by decide +kernel
theorem dX9_undo_14 : decode cX9_undo 14 = .ok (.ireturn, 1) := by decide +kernel
theorem dX9_undo_15 : decode cX9_undo 15 = .ok (.aload_n 0, 1) := by decide +kernel
theorem dX9_undo_16 : decode cX9_undo 16 = .ok (.dup, 1) := by decide +kernel
theorem dX9_undo_17 : decode cX9_undo 17 = .ok (.getfield 177, 3) := by decide +kernel
theorem dX9_undo_20 : decode cX9_undo 20 = .ok (.iconst 1, 1) := by decide +kernel
theorem dX9_undo_21 : decode cX9_undo 21 = .ok (.isub, 1) := by decide +kernel
theorem dX9_undo_22 : decode cX9_undo 22 = .ok (.putfield 177, 3) := by decide +kernel
theorem dX9_undo_25 : decode cX9_undo 25 = .ok (.aload_n 0, 1) := by decide +kernel
theorem dX9_undo_26 : decode cX9_undo 26 = .ok (.getfield 22, 3) := by decide +kernel
theorem dX9_undo_29 : decode cX9_undo 29 = .ok (.aload_n 0, 1) := by decide +kernel
theorem dX9_undo_30 : decode cX9_undo 30 = .ok (.getfield 57, 3) := by decide +kernel
theorem dX9_undo_33 : decode cX9_undo 33 = .ok (.aload_n 0, 1) := by decide +kernel
theorem dX9_undo_34 : decode cX9_undo 34 = .ok (.getfield 177, 3) := by decide +kernel
theorem dX9_undo_37 : decode cX9_undo 37 = .ok (.iaload, 1) := by decide +kernel
theorem dX9_undo_38 : decode cX9_undo 38 = .ok (.dup2, 1) := by decide +kernel
theorem dX9_undo_39 : decode cX9_undo 39 = .ok (.iaload, 1) := by decide +kernel
theorem dX9_undo_40 : decode cX9_undo 40 = .ok (.aload_n 0, 1) := by decide +kernel
theorem dX9_undo_41 : decode cX9_undo 41 = .ok (.getfield 63, 3) := by decide +kernel
theorem dX9_undo_44 : decode cX9_undo 44 = .ok (.aload_n 0, 1) := by decide +kernel
theorem dX9_undo_45 : decode cX9_undo 45 = .ok (.getfield 177, 3) := by decide +kernel
theorem dX9_undo_48 : decode cX9_undo 48 = .ok (.iaload, 1) := by decide +kernel
theorem dX9_undo_49 : decode cX9_undo 49 = .ok (.iadd, 1) := by decide +kernel
theorem dX9_undo_50 : decode cX9_undo 50 = .ok (.iastore, 1) := by decide +kernel
theorem dX9_undo_51 : decode cX9_undo 51 = .ok (.aload_n 0, 1) := by decide +kernel
theorem dX9_undo_52 : decode cX9_undo 52 = .ok (.getfield 177, 3) := by decide +kernel
theorem dX9_undo_55 : decode cX9_undo 55 = .ok (.ireturn, 1) := by decide +kernel
theorem dX9_sale_0 : decode cX9_sale 0 = .ok (.aload_n 0, 1) := by decide +kernel
theorem dX9_sale_1 : decode cX9_sale 1 = .ok (.iconst 0, 1) := by decide +kernel
theorem dX9_sale_2 : decode cX9_sale 2 = .ok (.putfield 117, 3) := by decide +kernel
theorem dX9_sale_5 : decode cX9_sale 5 = .ok (.iload_n 2, 1) := by decide +kernel
theorem dX9_sale_6 : decode cX9_sale 6 = .ok (.i2l, 1) := by decide +kernel
theorem dX9_sale_7 : decode cX9_sale 7 = .ok (.lconst 0, 1) := by decide +kernel
theorem dX9_sale_8 : decode cX9_sale 8 = .ok (.ldc2_w 193, 3) := by decide +kernel
theorem dX9_sale_11 : decode cX9_sale 11 = .ok (.invokestatic 123, 3) := by decide +kernel
theorem dX9_sale_14 : decode cX9_sale 14 = .ok (.ifCond .ne 6, 3) := by decide +kernel
theorem dX9_sale_17 : decode cX9_sale 17 = .ok (.bipush (-2), 2) := by decide +kernel
theorem dX9_sale_19 : decode cX9_sale 19 = .ok (.ireturn, 1) := by decide +kernel
theorem dX9_sale_20 : decode cX9_sale 20 = .ok (.iload_n 1, 1) := by decide +kernel
theorem dX9_sale_21 : decode cX9_sale 21 = .ok (.i2l, 1) := by decide +kernel
theorem dX9_sale_22 : decode cX9_sale 22 = .ok (.lconst 0, 1) := by decide +kernel
theorem dX9_sale_23 : decode cX9_sale 23 = .ok (.aload_n 0, 1) := by decide +kernel
theorem dX9_sale_24 : decode cX9_sale 24 = .ok (.getfield 177, 3) := by decide +kernel
theorem dX9_sale_27 : decode cX9_sale 27 = .ok (.iconst 1, 1) := by decide +kernel
theorem dX9_sale_28 : decode cX9_sale 28 = .ok (.isub, 1) := by decide +kernel
theorem dX9_sale_29 : decode cX9_sale 29 = .ok (.i2l, 1) := by decide +kernel
theorem dX9_sale_30 : decode cX9_sale 30 = .ok (.invokestatic 123, 3) := by decide +kernel
theorem dX9_sale_33 : decode cX9_sale 33 = .ok (.ifCond .ne 6, 3) := by decide +kernel
theorem dX9_sale_36 : decode cX9_sale 36 = .ok (.bipush (-9), 2) := by decide +kernel
theorem dX9_sale_38 : decode cX9_sale 38 = .ok (.ireturn, 1) := by decide +kernel
theorem dX9_sale_39 : decode cX9_sale 39 = .ok (.iload_n 2, 1) := by decide +kernel
theorem dX9_sale_40 : decode cX9_sale 40 = .ok (.ifCond .ne 12, 3) := by decide +kernel
theorem dX9_sale_43 : decode cX9_sale 43 = .ok (.aload_n 0, 1) := by decide +kernel
theorem dX9_sale_44 : decode cX9_sale 44 = .ok (.getfield 54, 3) := by decide +kernel
theorem dX9_sale_47 : decode cX9_sale 47 = .ok (.iload_n 1, 1) := by decide +kernel
theorem dX9_sale_48 : decode cX9_sale 48 = .ok (.iaload, 1) := by decide +kernel
theorem dX9_sale_49 : decode cX9_sale 49 = .ok (.goto 37, 3) := by decide +kernel
theorem dX9_sale_52 : decode cX9_sale 52 = .ok (.iload_n 2, 1) := by decide +kernel
theorem dX9_sale_53 : decode cX9_sale 53 = .ok (.iconst 1, 1) := by decide +kernel
theorem dX9_sale_54 : decode cX9_sale 54 = .ok (.if_icmp .ne 12, 3) := by decide +kernel
theorem dX9_sale_57 : decode cX9_sale 57 = .ok (.aload_n 0, 1) := by decide +kernel
theorem dX9_sale_58 : decode cX9_sale 58 = .ok (.getfield 57, 3) := by decide +kernel
theorem dX9_sale_61 : decode cX9_sale 61 = .ok (.iload_n 1, 1) := by decide +kernel
theorem dX9_sale_62 : decode cX9_sale 62 = .ok (.iaload, 1) := by decide +kernel
theorem dX9_sale_63 : decode cX9_sale 63 = .ok (.goto 23, 3) := by decide +kernel
theorem dX9_sale_66 : decode cX9_sale 66 = .ok (.iload_n 2, 1) := by decide +kernel
theorem dX9_sale_67 : decode cX9_sale 67 = .ok (.iconst 2, 1) := by decide +kernel
theorem dX9_sale_68 : decode cX9_sale 68 = .ok (.if_icmp .ne 12, 3) := by decide +kernel
theorem dX9_sale_71 : decode cX9_sale 71 = .ok (.aload_n 0, 1) := by decide +kernel
theorem dX9_sale_72 : decode cX9_sale 72 = .ok (.getfield 60, 3) := by decide +kernel
theorem dX9_sale_75 : decode cX9_sale 75 = .ok (.iload_n 1, 1) := by decide +kernel
theorem dX9_sale_76 : decode cX9_sale 76 = .ok (.iaload, 1) := by decide +kernel
theorem dX9_sale_77 : decode cX9_sale 77 = .ok (.goto 9, 3) := by decide +kernel
theorem dX9_sale_80 : decode cX9_sale 80 = .ok (.aload_n 0, 1) := by decide +kernel
theorem dX9_sale_81 : decode cX9_sale 81 = .ok (.getfield 63, 3) := by decide +kernel
theorem dX9_sale_84 : decode cX9_sale 84 = .ok (.iload_n 1, 1) := by decide +kernel
theorem dX9_sale_85 : decode cX9_sale 85 = .ok (.iaload, 1) := by decide +kernel
theorem dX9_sale_86 : decode cX9_sale 86 = .ok (.ireturn, 1) := by decide +kernel
theorem dX9_divisor_0 : decode cX9_divisor 0 = .ok (.lload_n 0, 1) := by decide +kernel
theorem dX9_divisor_1 : decode cX9_divisor 1 = .ok (.lstore 4, 2) := by decide +kernel
theorem dX9_divisor_3 : decode cX9_divisor 3 = .ok (.lload_n 2, 1) := by decide +kernel
theorem dX9_divisor_4 : decode cX9_divisor 4 = .ok (.lstore 6, 2) := by decide +kernel
theorem dX9_divisor_6 : decode cX9_divisor 6 = .ok (.lload 6, 2) := by decide +kernel
theorem dX9_divisor_8 : decode cX9_divisor 8 = .ok (.lconst 0, 1) := by decide +kernel
theorem dX9_divisor_9 : decode cX9_divisor 9 = .ok (.lcmp, 1) := by decide +kernel
theorem dX9_divisor_10 : decode cX9_divisor 10 = .ok (.ifCond .eq 21, 3) := by decide +kernel
theorem dX9_divisor_13 : decode cX9_divisor 13 = .ok (.lload 4, 2) := by decide +kernel
theorem dX9_divisor_15 : decode cX9_divisor 15 = .ok (.lload 6, 2) := by decide +kernel
theorem dX9_divisor_17 : decode cX9_divisor 17 = .ok (.lrem, 1) := by decide +kernel
theorem dX9_divisor_18 : decode cX9_divisor 18 = .ok (.lstore 8, 2) := by decide +kernel
theorem dX9_divisor_20 : decode cX9_divisor 20 = .ok (.lload 6, 2) := by decide +kernel
theorem dX9_divisor_22 : decode cX9_divisor 22 = .ok (.lstore 4, 2) := by decide +kernel
theorem dX9_divisor_24 : decode cX9_divisor 24 = .ok (.lload 8, 2) := by decide +kernel
theorem dX9_divisor_26 : decode cX9_divisor 26 = .ok (.lstore 6, 2) := by decide +kernel
theorem dX9_divisor_28 : decode cX9_divisor 28 = .ok (.goto (-22), 3) := by decide +kernel
theorem dX9_divisor_31 : decode cX9_divisor 31 = .ok (.lload 4, 2) := by decide +kernel
theorem dX9_divisor_33 : decode cX9_divisor 33 = .ok (.lreturn, 1) := by decide +kernel
theorem dX9_truly_0 : decode cX9_truly 0 = .ok (.aload_n 0, 1) := by decide +kernel
theorem dX9_truly_1 : decode cX9_truly 1 = .ok (.iconst 0, 1) := by decide +kernel
theorem dX9_truly_2 : decode cX9_truly 2 = .ok (.putfield 117, 3) := by decide +kernel
theorem dX9_truly_5 : decode cX9_truly 5 = .ok (.aload_n 0, 1) := by decide +kernel
theorem dX9_truly_6 : decode cX9_truly 6 = .ok (.iload_n 1, 1) := by decide +kernel
theorem dX9_truly_7 : decode cX9_truly 7 = .ok (.invokevirtual 180, 3) := by decide +kernel
theorem dX9_truly_10 : decode cX9_truly 10 = .ok (.ifCond .ne 11, 3) := by decide +kernel
theorem dX9_truly_13 : decode cX9_truly 13 = .ok (.aload_n 0, 1) := by decide +kernel
theorem dX9_truly_14 : decode cX9_truly 14 = .ok (.iload_n 2, 1) := by decide +kernel
theorem dX9_truly_15 : decode cX9_truly 15 = .ok (.invokevirtual 187, 3) := by decide +kernel
theorem dX9_truly_18 : decode cX9_truly 18 = .ok (.ifCond .eq 5, 3) := by decide +kernel
theorem dX9_truly_21 : decode cX9_truly 21 = .ok (.iconst (-1), 1) := by decide +kernel
theorem dX9_truly_22 : decode cX9_truly 22 = .ok (.ireturn, 1) := by decide +kernel
theorem dX9_truly_23 : decode cX9_truly 23 = .ok (.aload_n 0, 1) := by decide +kernel
theorem dX9_truly_24 : decode cX9_truly 24 = .ok (.getfield 19, 3) := by decide +kernel
theorem dX9_truly_27 : decode cX9_truly 27 = .ok (.iload_n 2, 1) := by decide +kernel
theorem dX9_truly_28 : decode cX9_truly 28 = .ok (.iaload, 1) := by decide +kernel
theorem dX9_truly_29 : decode cX9_truly 29 = .ok (.i2l, 1) := by decide +kernel
theorem dX9_truly_30 : decode cX9_truly 30 = .ok (.aload_n 0, 1) := by decide +kernel
theorem dX9_truly_31 : decode cX9_truly 31 = .ok (.getfield 13, 3) := by decide +kernel
theorem dX9_truly_34 : decode cX9_truly 34 = .ok (.iload_n 1, 1) := by decide +kernel
theorem dX9_truly_35 : decode cX9_truly 35 = .ok (.iaload, 1) := by decide +kernel
theorem dX9_truly_36 : decode cX9_truly 36 = .ok (.i2l, 1) := by decide +kernel
theorem dX9_truly_37 : decode cX9_truly 37 = .ok (.invokestatic 195, 3) := by decide +kernel
theorem dX9_truly_40 : decode cX9_truly 40 = .ok (.l2i, 1) := by decide +kernel
theorem dX9_truly_41 : decode cX9_truly 41 = .ok (.istore 4, 2) := by decide +kernel
theorem dX9_truly_43 : decode cX9_truly 43 = .ok (.iload_n 3, 1) := by decide +kernel
theorem dX9_truly_44 : decode cX9_truly 44 = .ok (.ifCond .eq 15, 3) := by decide +kernel
theorem dX9_truly_47 : decode cX9_truly 47 = .ok (.aload_n 0, 1) := by decide +kernel
theorem dX9_truly_48 : decode cX9_truly 48 = .ok (.getfield 19, 3) := by decide +kernel
theorem dX9_truly_51 : decode cX9_truly 51 = .ok (.iload_n 2, 1) := by decide +kernel
theorem dX9_truly_52 : decode cX9_truly 52 = .ok (.iaload, 1) := by decide +kernel
theorem dX9_truly_53 : decode cX9_truly 53 = .ok (.iload 4, 2) := by decide +kernel
theorem dX9_truly_55 : decode cX9_truly 55 = .ok (.idiv, 1) := by decide +kernel
theorem dX9_truly_56 : decode cX9_truly 56 = .ok (.goto 12, 3) := by decide +kernel
theorem dX9_truly_59 : decode cX9_truly 59 = .ok (.aload_n 0, 1) := by decide +kernel
theorem dX9_truly_60 : decode cX9_truly 60 = .ok (.getfield 13, 3) := by decide +kernel
theorem dX9_truly_63 : decode cX9_truly 63 = .ok (.iload_n 1, 1) := by decide +kernel
theorem dX9_truly_64 : decode cX9_truly 64 = .ok (.iaload, 1) := by decide +kernel
theorem dX9_truly_65 : decode cX9_truly 65 = .ok (.iload 4, 2) := by decide +kernel
theorem dX9_truly_67 : decode cX9_truly 67 = .ok (.idiv, 1) := by decide +kernel
theorem dX9_truly_68 : decode cX9_truly 68 = .ok (.ireturn, 1) := by decide +kernel
theorem dX9_layFew_0 : decode cX9_layFew 0 = .ok (.iconst 0, 1) := by decide +kernel
theorem dX9_layFew_1 : decode cX9_layFew 1 = .ok (.istore_n 3, 1) := by decide +kernel
theorem dX9_layFew_2 : decode cX9_layFew 2 = .ok (.iload_n 3, 1) := by decide +kernel
theorem dX9_layFew_3 : decode cX9_layFew 3 = .ok (.iload_n 2, 1) := by decide +kernel
theorem dX9_layFew_4 : decode cX9_layFew 4 = .ok (.if_icmp .gt 29, 3) := by decide +kernel
theorem dX9_layFew_7 : decode cX9_layFew 7 = .ok (.aload_n 0, 1) := by decide +kernel
theorem dX9_layFew_8 : decode cX9_layFew 8 = .ok (.getfield 102, 3) := by decide +kernel
theorem dX9_layFew_11 : decode cX9_layFew 11 = .ok (.sipush 6606, 3) := by decide +kernel
theorem dX9_layFew_14 : decode cX9_layFew 14 = .ok (.iload_n 3, 1) := by decide +kernel
theorem dX9_layFew_15 : decode cX9_layFew 15 = .ok (.iadd, 1) := by decide +kernel
theorem dX9_layFew_16 : decode cX9_layFew 16 = .ok (.iload_n 3, 1) := by decide +kernel
theorem dX9_layFew_17 : decode cX9_layFew 17 = .ok (.ifCond .ne 7, 3) := by decide +kernel
theorem dX9_layFew_20 : decode cX9_layFew 20 = .ok (.iconst 0, 1) := by decide +kernel
theorem dX9_layFew_21 : decode cX9_layFew 21 = .ok (.goto 5, 3) := by decide +kernel
theorem dX9_layFew_24 : decode cX9_layFew 24 = .ok (.ldc 199, 2) := by decide +kernel
theorem dX9_layFew_26 : decode cX9_layFew 26 = .ok (.iastore, 1) := by decide +kernel
theorem dX9_layFew_27 : decode cX9_layFew 27 = .ok (.iinc 3 1, 3) := by decide +kernel
theorem dX9_layFew_30 : decode cX9_layFew 30 = .ok (.goto (-28), 3) := by decide +kernel
theorem dX9_layFew_33 : decode cX9_layFew 33 = .ok (.iconst 5, 1) := by decide +kernel
theorem dX9_layFew_34 : decode cX9_layFew 34 = .ok (.istore_n 3, 1) := by decide +kernel
theorem dX9_layFew_35 : decode cX9_layFew 35 = .ok (.iload_n 3, 1) := by decide +kernel
theorem dX9_layFew_36 : decode cX9_layFew 36 = .ok (.ifCond .lt 160, 3) := by decide +kernel
theorem dX9_layFew_39 : decode cX9_layFew 39 = .ok (.sipush 1101, 3) := by decide +kernel
theorem dX9_layFew_42 : decode cX9_layFew 42 = .ok (.iload_n 3, 1) := by decide +kernel
theorem dX9_layFew_43 : decode cX9_layFew 43 = .ok (.imul, 1) := by decide +kernel
theorem dX9_layFew_44 : decode cX9_layFew 44 = .ok (.istore 4, 2) := by decide +kernel
theorem dX9_layFew_46 : decode cX9_layFew 46 = .ok (.iconst 0, 1) := by decide +kernel
theorem dX9_layFew_47 : decode cX9_layFew 47 = .ok (.istore 5, 2) := by decide +kernel
theorem dX9_layFew_49 : decode cX9_layFew 49 = .ok (.iload 5, 2) := by decide +kernel
theorem dX9_layFew_51 : decode cX9_layFew 51 = .ok (.iload_n 2, 1) := by decide +kernel
theorem dX9_layFew_52 : decode cX9_layFew 52 = .ok (.if_icmp .gt 138, 3) := by decide +kernel
theorem dX9_layFew_55 : decode cX9_layFew 55 = .ok (.iload_n 1, 1) := by decide +kernel
theorem dX9_layFew_56 : decode cX9_layFew 56 = .ok (.iload_n 3, 1) := by decide +kernel
theorem dX9_layFew_57 : decode cX9_layFew 57 = .ok (.invokestatic 200, 3) := by decide +kernel
theorem dX9_layFew_60 : decode cX9_layFew 60 = .ok (.ifCond .ne 30, 3) := by decide +kernel
theorem dX9_layFew_63 : decode cX9_layFew 63 = .ok (.aload_n 0, 1) := by decide +kernel
theorem dX9_layFew_64 : decode cX9_layFew 64 = .ok (.getfield 102, 3) := by decide +kernel
theorem dX9_layFew_67 : decode cX9_layFew 67 = .ok (.iload 4, 2) := by decide +kernel
theorem dX9_layFew_69 : decode cX9_layFew 69 = .ok (.iload 5, 2) := by decide +kernel
theorem dX9_layFew_71 : decode cX9_layFew 71 = .ok (.iadd, 1) := by decide +kernel
theorem dX9_layFew_72 : decode cX9_layFew 72 = .ok (.aload_n 0, 1) := by decide +kernel
theorem dX9_layFew_73 : decode cX9_layFew 73 = .ok (.getfield 102, 3) := by decide +kernel
theorem dX9_layFew_76 : decode cX9_layFew 76 = .ok (.iload 4, 2) := by decide +kernel
theorem dX9_layFew_78 : decode cX9_layFew 78 = .ok (.sipush 1101, 3) := by decide +kernel
theorem dX9_layFew_81 : decode cX9_layFew 81 = .ok (.iadd, 1) := by decide +kernel
theorem dX9_layFew_82 : decode cX9_layFew 82 = .ok (.iload 5, 2) := by decide +kernel
theorem dX9_layFew_84 : decode cX9_layFew 84 = .ok (.iadd, 1) := by decide +kernel
theorem dX9_layFew_85 : decode cX9_layFew 85 = .ok (.iaload, 1) := by decide +kernel
theorem dX9_layFew_86 : decode cX9_layFew 86 = .ok (.iastore, 1) := by decide +kernel
theorem dX9_layFew_87 : decode cX9_layFew 87 = .ok (.goto 97, 3) := by decide +kernel
theorem dX9_layFew_90 : decode cX9_layFew 90 = .ok (.iload 5, 2) := by decide +kernel
theorem dX9_layFew_92 : decode cX9_layFew 92 = .ok (.aload_n 0, 1) := by decide +kernel
theorem dX9_layFew_93 : decode cX9_layFew 93 = .ok (.getfield 13, 3) := by decide +kernel
theorem dX9_layFew_96 : decode cX9_layFew 96 = .ok (.iload_n 3, 1) := by decide +kernel
theorem dX9_layFew_97 : decode cX9_layFew 97 = .ok (.iaload, 1) := by decide +kernel
theorem dX9_layFew_98 : decode cX9_layFew 98 = .ok (.if_icmp .ge 18, 3) := by decide +kernel
theorem dX9_layFew_101 : decode cX9_layFew 101 = .ok (.aload_n 0, 1) := by decide +kernel
theorem dX9_layFew_102 : decode cX9_layFew 102 = .ok (.getfield 102, 3) := by decide +kernel
theorem dX9_layFew_105 : decode cX9_layFew 105 = .ok (.iload 4, 2) := by decide +kernel
theorem dX9_layFew_107 : decode cX9_layFew 107 = .ok (.iload 5, 2) := by decide +kernel
theorem dX9_layFew_109 : decode cX9_layFew 109 = .ok (.iadd, 1) := by decide +kernel
theorem dX9_layFew_110 : decode cX9_layFew 110 = .ok (.ldc 199, 2) := by decide +kernel
theorem dX9_layFew_112 : decode cX9_layFew 112 = .ok (.iastore, 1) := by decide +kernel
theorem dX9_layFew_113 : decode cX9_layFew 113 = .ok (.goto 71, 3) := by decide +kernel
theorem dX9_layFew_116 : decode cX9_layFew 116 = .ok (.aload_n 0, 1) := by decide +kernel
theorem dX9_layFew_117 : decode cX9_layFew 117 = .ok (.getfield 102, 3) := by decide +kernel
theorem dX9_layFew_120 : decode cX9_layFew 120 = .ok (.iload 4, 2) := by decide +kernel
theorem dX9_layFew_122 : decode cX9_layFew 122 = .ok (.sipush 1101, 3) := by decide +kernel
theorem dX9_layFew_125 : decode cX9_layFew 125 = .ok (.iadd, 1) := by decide +kernel
theorem dX9_layFew_126 : decode cX9_layFew 126 = .ok (.iload 5, 2) := by decide +kernel
theorem dX9_layFew_128 : decode cX9_layFew 128 = .ok (.iadd, 1) := by decide +kernel
theorem dX9_layFew_129 : decode cX9_layFew 129 = .ok (.aload_n 0, 1) := by decide +kernel
theorem dX9_layFew_130 : decode cX9_layFew 130 = .ok (.getfield 13, 3) := by decide +kernel
theorem dX9_layFew_133 : decode cX9_layFew 133 = .ok (.iload_n 3, 1) := by decide +kernel
theorem dX9_layFew_134 : decode cX9_layFew 134 = .ok (.iaload, 1) := by decide +kernel
theorem dX9_layFew_135 : decode cX9_layFew 135 = .ok (.isub, 1) := by decide +kernel
theorem dX9_layFew_136 : decode cX9_layFew 136 = .ok (.iaload, 1) := by decide +kernel
theorem dX9_layFew_137 : decode cX9_layFew 137 = .ok (.istore 6, 2) := by decide +kernel
theorem dX9_layFew_139 : decode cX9_layFew 139 = .ok (.aload_n 0, 1) := by decide +kernel
theorem dX9_layFew_140 : decode cX9_layFew 140 = .ok (.getfield 102, 3) := by decide +kernel
theorem dX9_layFew_143 : decode cX9_layFew 143 = .ok (.iload 4, 2) := by decide +kernel
theorem dX9_layFew_145 : decode cX9_layFew 145 = .ok (.iload 5, 2) := by decide +kernel
theorem dX9_layFew_147 : decode cX9_layFew 147 = .ok (.iadd, 1) := by decide +kernel
theorem dX9_layFew_148 : decode cX9_layFew 148 = .ok (.aload_n 0, 1) := by decide +kernel
theorem dX9_layFew_149 : decode cX9_layFew 149 = .ok (.getfield 13, 3) := by decide +kernel
theorem dX9_layFew_152 : decode cX9_layFew 152 = .ok (.iload_n 3, 1) := by decide +kernel
theorem dX9_layFew_153 : decode cX9_layFew 153 = .ok (.iaload, 1) := by decide +kernel
theorem dX9_layFew_154 : decode cX9_layFew 154 = .ok (.isub, 1) := by decide +kernel
theorem dX9_layFew_155 : decode cX9_layFew 155 = .ok (.iaload, 1) := by decide +kernel
theorem dX9_layFew_156 : decode cX9_layFew 156 = .ok (.istore 7, 2) := by decide +kernel
theorem dX9_layFew_158 : decode cX9_layFew 158 = .ok (.aload_n 0, 1) := by decide +kernel
theorem dX9_layFew_159 : decode cX9_layFew 159 = .ok (.getfield 102, 3) := by decide +kernel
theorem dX9_layFew_162 : decode cX9_layFew 162 = .ok (.iload 4, 2) := by decide +kernel
theorem dX9_layFew_164 : decode cX9_layFew 164 = .ok (.iload 5, 2) := by decide +kernel
theorem dX9_layFew_166 : decode cX9_layFew 166 = .ok (.iadd, 1) := by decide +kernel
theorem dX9_layFew_167 : decode cX9_layFew 167 = .ok (.iload 6, 2) := by decide +kernel
theorem dX9_layFew_169 : decode cX9_layFew 169 = .ok (.iload 7, 2) := by decide +kernel
theorem dX9_layFew_171 : decode cX9_layFew 171 = .ok (.if_icmp .ge 8, 3) := by decide +kernel
theorem dX9_layFew_174 : decode cX9_layFew 174 = .ok (.iload 6, 2) := by decide +kernel
theorem dX9_layFew_176 : decode cX9_layFew 176 = .ok (.goto 5, 3) := by decide +kernel
theorem dX9_layFew_179 : decode cX9_layFew 179 = .ok (.iload 7, 2) := by decide +kernel
theorem dX9_layFew_181 : decode cX9_layFew 181 = .ok (.iconst 1, 1) := by decide +kernel
theorem dX9_layFew_182 : decode cX9_layFew 182 = .ok (.iadd, 1) := by decide +kernel
theorem dX9_layFew_183 : decode cX9_layFew 183 = .ok (.iastore, 1) := by decide +kernel
theorem dX9_layFew_184 : decode cX9_layFew 184 = .ok (.iinc 5 1, 3) := by decide +kernel
theorem dX9_layFew_187 : decode cX9_layFew 187 = .ok (.goto (-138), 3) := by decide +kernel
theorem dX9_layFew_190 : decode cX9_layFew 190 = .ok (.iinc 3 (-1), 3) := by decide +kernel
theorem dX9_layFew_193 : decode cX9_layFew 193 = .ok (.goto (-158), 3) := by decide +kernel
theorem dX9_layFew_196 : decode cX9_layFew 196 = .ok (.return_, 1) := by decide +kernel
theorem dX9_can_0 : decode cX9_can 0 = .ok (.iconst 0, 1) := by decide +kernel
theorem dX9_can_1 : decode cX9_can 1 = .ok (.istore 6, 2) := by decide +kernel
theorem dX9_can_3 : decode cX9_can 3 = .ok (.iload 4, 2) := by decide +kernel
theorem dX9_can_5 : decode cX9_can 5 = .ok (.istore 7, 2) := by decide +kernel
theorem dX9_can_7 : decode cX9_can 7 = .ok (.iload 7, 2) := by decide +kernel
theorem dX9_can_9 : decode cX9_can 9 = .ok (.iload 5, 2) := by decide +kernel
theorem dX9_can_11 : decode cX9_can 11 = .ok (.if_icmp .gt 46, 3) := by decide +kernel
theorem dX9_can_14 : decode cX9_can 14 = .ok (.iload 6, 2) := by decide +kernel
theorem dX9_can_16 : decode cX9_can 16 = .ok (.ifCond .ne 41, 3) := by decide +kernel
theorem dX9_can_19 : decode cX9_can 19 = .ok (.iload 7, 2) := by decide +kernel
theorem dX9_can_21 : decode cX9_can 21 = .ok (.iload_n 2, 1) := by decide +kernel
theorem dX9_can_22 : decode cX9_can 22 = .ok (.if_icmp .lt 26, 3) := by decide +kernel
theorem dX9_can_25 : decode cX9_can 25 = .ok (.aload_n 0, 1) := by decide +kernel
theorem dX9_can_26 : decode cX9_can 26 = .ok (.getfield 102, 3) := by decide +kernel
theorem dX9_can_29 : decode cX9_can 29 = .ok (.sipush 1101, 3) := by decide +kernel
theorem dX9_can_32 : decode cX9_can 32 = .ok (.iload_n 1, 1) := by decide +kernel
theorem dX9_can_33 : decode cX9_can 33 = .ok (.imul, 1) := by decide +kernel
theorem dX9_can_34 : decode cX9_can 34 = .ok (.iload 7, 2) := by decide +kernel
theorem dX9_can_36 : decode cX9_can 36 = .ok (.iadd, 1) := by decide +kernel
theorem dX9_can_37 : decode cX9_can 37 = .ok (.iload_n 2, 1) := by decide +kernel
theorem dX9_can_38 : decode cX9_can 38 = .ok (.isub, 1) := by decide +kernel
theorem dX9_can_39 : decode cX9_can 39 = .ok (.iaload, 1) := by decide +kernel
theorem dX9_can_40 : decode cX9_can 40 = .ok (.iload_n 3, 1) := by decide +kernel
theorem dX9_can_41 : decode cX9_can 41 = .ok (.if_icmp .ne 7, 3) := by decide +kernel
theorem dX9_can_44 : decode cX9_can 44 = .ok (.iconst 1, 1) := by decide +kernel
theorem dX9_can_45 : decode cX9_can 45 = .ok (.goto 4, 3) := by decide +kernel
theorem dX9_can_48 : decode cX9_can 48 = .ok (.iconst 0, 1) := by decide +kernel
theorem dX9_can_49 : decode cX9_can 49 = .ok (.istore 6, 2) := by decide +kernel
theorem dX9_can_51 : decode cX9_can 51 = .ok (.iinc 7 1, 3) := by decide +kernel
theorem dX9_can_54 : decode cX9_can 54 = .ok (.goto (-47), 3) := by decide +kernel
theorem dX9_can_57 : decode cX9_can 57 = .ok (.iload 6, 2) := by decide +kernel
theorem dX9_can_59 : decode cX9_can 59 = .ok (.ireturn, 1) := by decide +kernel
theorem dX9_layWay_0 : decode cX9_layWay 0 = .ok (.iconst 0, 1) := by decide +kernel
theorem dX9_layWay_1 : decode cX9_layWay 1 = .ok (.istore 5, 2) := by decide +kernel
theorem dX9_layWay_3 : decode cX9_layWay 3 = .ok (.iload_n 2, 1) := by decide +kernel
theorem dX9_layWay_4 : decode cX9_layWay 4 = .ok (.istore 6, 2) := by decide +kernel
theorem dX9_layWay_6 : decode cX9_layWay 6 = .ok (.iconst 0, 1) := by decide +kernel
theorem dX9_layWay_7 : decode cX9_layWay 7 = .ok (.istore 7, 2) := by decide +kernel
theorem dX9_layWay_9 : decode cX9_layWay 9 = .ok (.iload 7, 2) := by decide +kernel
theorem dX9_layWay_11 : decode cX9_layWay 11 = .ok (.bipush 6, 2) := by decide +kernel
theorem dX9_layWay_13 : decode cX9_layWay 13 = .ok (.if_icmp .ge 93, 3) := by decide +kernel
theorem dX9_layWay_16 : decode cX9_layWay 16 = .ok (.iconst 0, 1) := by decide +kernel
theorem dX9_layWay_17 : decode cX9_layWay 17 = .ok (.istore 8, 2) := by decide +kernel
theorem dX9_layWay_19 : decode cX9_layWay 19 = .ok (.iload_n 1, 1) := by decide +kernel
theorem dX9_layWay_20 : decode cX9_layWay 20 = .ok (.iload 7, 2) := by decide +kernel
theorem dX9_layWay_22 : decode cX9_layWay 22 = .ok (.invokestatic 200, 3) := by decide +kernel
theorem dX9_layWay_25 : decode cX9_layWay 25 = .ok (.ifCond .eq 44, 3) := by decide +kernel
theorem dX9_layWay_28 : decode cX9_layWay 28 = .ok (.iconst 1, 1) := by decide +kernel
theorem dX9_layWay_29 : decode cX9_layWay 29 = .ok (.istore 8, 2) := by decide +kernel
theorem dX9_layWay_31 : decode cX9_layWay 31 = .ok (.aload_n 0, 1) := by decide +kernel
theorem dX9_layWay_32 : decode cX9_layWay 32 = .ok (.iload 7, 2) := by decide +kernel
theorem dX9_layWay_34 : decode cX9_layWay 34 = .ok (.iconst 1, 1) := by decide +kernel
theorem dX9_layWay_35 : decode cX9_layWay 35 = .ok (.iadd, 1) := by decide +kernel
theorem dX9_layWay_36 : decode cX9_layWay 36 = .ok (.iload 5, 2) := by decide +kernel
theorem dX9_layWay_38 : decode cX9_layWay 38 = .ok (.iload 8, 2) := by decide +kernel
theorem dX9_layWay_40 : decode cX9_layWay 40 = .ok (.aload_n 0, 1) := by decide +kernel
theorem dX9_layWay_41 : decode cX9_layWay 41 = .ok (.getfield 13, 3) := by decide +kernel
theorem dX9_layWay_44 : decode cX9_layWay 44 = .ok (.iload 7, 2) := by decide +kernel
theorem dX9_layWay_46 : decode cX9_layWay 46 = .ok (.iaload, 1) := by decide +kernel
theorem dX9_layWay_47 : decode cX9_layWay 47 = .ok (.imul, 1) := by decide +kernel
theorem dX9_layWay_48 : decode cX9_layWay 48 = .ok (.iadd, 1) := by decide +kernel
theorem dX9_layWay_49 : decode cX9_layWay 49 = .ok (.iload 6, 2) := by decide +kernel
theorem dX9_layWay_51 : decode cX9_layWay 51 = .ok (.iload 8, 2) := by decide +kernel
end
section
theorem dX9_layWay_53 : decode cX9_layWay 53 = .ok (.isub, 1) := by decide +kernel
theorem dX9_layWay_54 : decode cX9_layWay 54 = .ok (.iload_n 3, 1) := by decide +kernel
theorem dX9_layWay_55 : decode cX9_layWay 55 = .ok (.iload 4, 2) := by decide +kernel
theorem dX9_layWay_57 : decode cX9_layWay 57 = .ok (.invokevirtual 204, 3) := by decide +kernel
theorem dX9_layWay_60 : decode cX9_layWay 60 = .ok (.ifCond .ne 9, 3) := by decide +kernel
theorem dX9_layWay_63 : decode cX9_layWay 63 = .ok (.iinc 8 1, 3) := by decide +kernel
theorem dX9_layWay_66 : decode cX9_layWay 66 = .ok (.goto (-35), 3) := by decide +kernel
theorem dX9_layWay_69 : decode cX9_layWay 69 = .ok (.aload_n 0, 1) := by decide +kernel
theorem dX9_layWay_70 : decode cX9_layWay 70 = .ok (.getfield 105, 3) := by decide +kernel
theorem dX9_layWay_73 : decode cX9_layWay 73 = .ok (.iload 7, 2) := by decide +kernel
theorem dX9_layWay_75 : decode cX9_layWay 75 = .ok (.iload 8, 2) := by decide +kernel
theorem dX9_layWay_77 : decode cX9_layWay 77 = .ok (.iastore, 1) := by decide +kernel
theorem dX9_layWay_78 : decode cX9_layWay 78 = .ok (.iload 5, 2) := by decide +kernel
theorem dX9_layWay_80 : decode cX9_layWay 80 = .ok (.iload 8, 2) := by decide +kernel
theorem dX9_layWay_82 : decode cX9_layWay 82 = .ok (.aload_n 0, 1) := by decide +kernel
theorem dX9_layWay_83 : decode cX9_layWay 83 = .ok (.getfield 13, 3) := by decide +kernel
theorem dX9_layWay_86 : decode cX9_layWay 86 = .ok (.iload 7, 2) := by decide +kernel
theorem dX9_layWay_88 : decode cX9_layWay 88 = .ok (.iaload, 1) := by decide +kernel
theorem dX9_layWay_89 : decode cX9_layWay 89 = .ok (.imul, 1) := by decide +kernel
theorem dX9_layWay_90 : decode cX9_layWay 90 = .ok (.iadd, 1) := by decide +kernel
theorem dX9_layWay_91 : decode cX9_layWay 91 = .ok (.istore 5, 2) := by decide +kernel
theorem dX9_layWay_93 : decode cX9_layWay 93 = .ok (.iload 6, 2) := by decide +kernel
theorem dX9_layWay_95 : decode cX9_layWay 95 = .ok (.iload 8, 2) := by decide +kernel
theorem dX9_layWay_97 : decode cX9_layWay 97 = .ok (.isub, 1) := by decide +kernel
theorem dX9_layWay_98 : decode cX9_layWay 98 = .ok (.istore 6, 2) := by decide +kernel
theorem dX9_layWay_100 : decode cX9_layWay 100 = .ok (.iinc 7 1, 3) := by decide +kernel
theorem dX9_layWay_103 : decode cX9_layWay 103 = .ok (.goto (-94), 3) := by decide +kernel
theorem dX9_layWay_106 : decode cX9_layWay 106 = .ok (.return_, 1) := by decide +kernel
theorem dX9_findCheapest_0 : decode cX9_findCheapest 0 = .ok (.aload_n 0, 1) := by decide +kernel
theorem dX9_findCheapest_1 : decode cX9_findCheapest 1 = .ok (.getfield 22, 3) := by decide +kernel
theorem dX9_findCheapest_4 : decode cX9_findCheapest 4 = .ok (.iload_n 1, 1) := by decide +kernel
theorem dX9_findCheapest_5 : decode cX9_findCheapest 5 = .ok (.iaload, 1) := by decide +kernel
theorem dX9_findCheapest_6 : decode cX9_findCheapest 6 = .ok (.sipush 1100, 3) := by decide +kernel
theorem dX9_findCheapest_9 : decode cX9_findCheapest 9 = .ok (.if_icmp .ge 12, 3) := by decide +kernel
theorem dX9_findCheapest_12 : decode cX9_findCheapest 12 = .ok (.aload_n 0, 1) := by decide +kernel
theorem dX9_findCheapest_13 : decode cX9_findCheapest 13 = .ok (.getfield 22, 3) := by decide +kernel
theorem dX9_findCheapest_16 : decode cX9_findCheapest 16 = .ok (.iload_n 1, 1) := by decide +kernel
theorem dX9_findCheapest_17 : decode cX9_findCheapest 17 = .ok (.iaload, 1) := by decide +kernel
theorem dX9_findCheapest_18 : decode cX9_findCheapest 18 = .ok (.goto 6, 3) := by decide +kernel
theorem dX9_findCheapest_21 : decode cX9_findCheapest 21 = .ok (.sipush 1100, 3) := by decide +kernel
theorem dX9_findCheapest_24 : decode cX9_findCheapest 24 = .ok (.istore_n 3, 1) := by decide +kernel
theorem dX9_findCheapest_25 : decode cX9_findCheapest 25 = .ok (.bipush (-9), 2) := by decide +kernel
theorem dX9_findCheapest_27 : decode cX9_findCheapest 27 = .ok (.istore 4, 2) := by decide +kernel
theorem dX9_findCheapest_29 : decode cX9_findCheapest 29 = .ok (.iconst 1, 1) := by decide +kernel
theorem dX9_findCheapest_30 : decode cX9_findCheapest 30 = .ok (.istore 5, 2) := by decide +kernel
theorem dX9_findCheapest_32 : decode cX9_findCheapest 32 = .ok (.iload 5, 2) := by decide +kernel
theorem dX9_findCheapest_34 : decode cX9_findCheapest 34 = .ok (.iconst 1, 1) := by decide +kernel
theorem dX9_findCheapest_35 : decode cX9_findCheapest 35 = .ok (.aload_n 0, 1) := by decide +kernel
theorem dX9_findCheapest_36 : decode cX9_findCheapest 36 = .ok (.getfield 120, 3) := by decide +kernel
theorem dX9_findCheapest_39 : decode cX9_findCheapest 39 = .ok (.ishl, 1) := by decide +kernel
theorem dX9_findCheapest_40 : decode cX9_findCheapest 40 = .ok (.if_icmp .ge 206, 3) := by decide +kernel
theorem dX9_findCheapest_43 : decode cX9_findCheapest 43 = .ok (.iconst 0, 1) := by decide +kernel
theorem dX9_findCheapest_44 : decode cX9_findCheapest 44 = .ok (.istore 6, 2) := by decide +kernel
theorem dX9_findCheapest_46 : decode cX9_findCheapest 46 = .ok (.iconst 1, 1) := by decide +kernel
theorem dX9_findCheapest_47 : decode cX9_findCheapest 47 = .ok (.istore 7, 2) := by decide +kernel
theorem dX9_findCheapest_49 : decode cX9_findCheapest 49 = .ok (.iconst 0, 1) := by decide +kernel
theorem dX9_findCheapest_50 : decode cX9_findCheapest 50 = .ok (.istore 8, 2) := by decide +kernel
theorem dX9_findCheapest_52 : decode cX9_findCheapest 52 = .ok (.iload 8, 2) := by decide +kernel
theorem dX9_findCheapest_54 : decode cX9_findCheapest 54 = .ok (.aload_n 0, 1) := by decide +kernel
theorem dX9_findCheapest_55 : decode cX9_findCheapest 55 = .ok (.getfield 120, 3) := by decide +kernel
theorem dX9_findCheapest_58 : decode cX9_findCheapest 58 = .ok (.if_icmp .ge 71, 3) := by decide +kernel
theorem dX9_findCheapest_61 : decode cX9_findCheapest 61 = .ok (.iload 6, 2) := by decide +kernel
theorem dX9_findCheapest_63 : decode cX9_findCheapest 63 = .ok (.iload 5, 2) := by decide +kernel
theorem dX9_findCheapest_65 : decode cX9_findCheapest 65 = .ok (.iload 8, 2) := by decide +kernel
theorem dX9_findCheapest_67 : decode cX9_findCheapest 67 = .ok (.invokestatic 200, 3) := by decide +kernel
theorem dX9_findCheapest_70 : decode cX9_findCheapest 70 = .ok (.ifCond .eq 13, 3) := by decide +kernel
theorem dX9_findCheapest_73 : decode cX9_findCheapest 73 = .ok (.aload_n 0, 1) := by decide +kernel
theorem dX9_findCheapest_74 : decode cX9_findCheapest 74 = .ok (.getfield 16, 3) := by decide +kernel
theorem dX9_findCheapest_77 : decode cX9_findCheapest 77 = .ok (.iload 8, 2) := by decide +kernel
theorem dX9_findCheapest_79 : decode cX9_findCheapest 79 = .ok (.iaload, 1) := by decide +kernel
theorem dX9_findCheapest_80 : decode cX9_findCheapest 80 = .ok (.goto 4, 3) := by decide +kernel
theorem dX9_findCheapest_83 : decode cX9_findCheapest 83 = .ok (.iconst 0, 1) := by decide +kernel
theorem dX9_findCheapest_84 : decode cX9_findCheapest 84 = .ok (.iadd, 1) := by decide +kernel
theorem dX9_findCheapest_85 : decode cX9_findCheapest 85 = .ok (.istore 6, 2) := by decide +kernel
theorem dX9_findCheapest_87 : decode cX9_findCheapest 87 = .ok (.iload 7, 2) := by decide +kernel
theorem dX9_findCheapest_89 : decode cX9_findCheapest 89 = .ok (.ifCond .eq 31, 3) := by decide +kernel
theorem dX9_findCheapest_92 : decode cX9_findCheapest 92 = .ok (.iload 5, 2) := by decide +kernel
theorem dX9_findCheapest_94 : decode cX9_findCheapest 94 = .ok (.iload 8, 2) := by decide +kernel
theorem dX9_findCheapest_96 : decode cX9_findCheapest 96 = .ok (.invokestatic 200, 3) := by decide +kernel
theorem dX9_findCheapest_99 : decode cX9_findCheapest 99 = .ok (.ifCond .eq 17, 3) := by decide +kernel
theorem dX9_findCheapest_102 : decode cX9_findCheapest 102 = .ok (.aload_n 0, 1) := by decide +kernel
theorem dX9_findCheapest_103 : decode cX9_findCheapest 103 = .ok (.getfield 25, 3) := by decide +kernel
theorem dX9_findCheapest_106 : decode cX9_findCheapest 106 = .ok (.iconst 4, 1) := by decide +kernel
theorem dX9_findCheapest_107 : decode cX9_findCheapest 107 = .ok (.iload 8, 2) := by decide +kernel
theorem dX9_findCheapest_109 : decode cX9_findCheapest 109 = .ok (.imul, 1) := by decide +kernel
theorem dX9_findCheapest_110 : decode cX9_findCheapest 110 = .ok (.iload_n 1, 1) := by decide +kernel
theorem dX9_findCheapest_111 : decode cX9_findCheapest 111 = .ok (.iadd, 1) := by decide +kernel
theorem dX9_findCheapest_112 : decode cX9_findCheapest 112 = .ok (.baload, 1) := by decide +kernel
theorem dX9_findCheapest_113 : decode cX9_findCheapest 113 = .ok (.ifCond .ne 7, 3) := by decide +kernel
theorem dX9_findCheapest_116 : decode cX9_findCheapest 116 = .ok (.iconst 1, 1) := by decide +kernel
theorem dX9_findCheapest_117 : decode cX9_findCheapest 117 = .ok (.goto 4, 3) := by decide +kernel
theorem dX9_findCheapest_120 : decode cX9_findCheapest 120 = .ok (.iconst 0, 1) := by decide +kernel
theorem dX9_findCheapest_121 : decode cX9_findCheapest 121 = .ok (.istore 7, 2) := by decide +kernel
theorem dX9_findCheapest_123 : decode cX9_findCheapest 123 = .ok (.iinc 8 1, 3) := by decide +kernel
theorem dX9_findCheapest_126 : decode cX9_findCheapest 126 = .ok (.goto (-74), 3) := by decide +kernel
theorem dX9_findCheapest_129 : decode cX9_findCheapest 129 = .ok (.iload 7, 2) := by decide +kernel
theorem dX9_findCheapest_131 : decode cX9_findCheapest 131 = .ok (.ifCond .eq 109, 3) := by decide +kernel
theorem dX9_findCheapest_134 : decode cX9_findCheapest 134 = .ok (.iload_n 2, 1) := by decide +kernel
theorem dX9_findCheapest_135 : decode cX9_findCheapest 135 = .ok (.iload_n 3, 1) := by decide +kernel
theorem dX9_findCheapest_136 : decode cX9_findCheapest 136 = .ok (.if_icmp .gt 104, 3) := by decide +kernel
theorem dX9_findCheapest_139 : decode cX9_findCheapest 139 = .ok (.aload_n 0, 1) := by decide +kernel
theorem dX9_findCheapest_140 : decode cX9_findCheapest 140 = .ok (.iload 5, 2) := by decide +kernel
theorem dX9_findCheapest_142 : decode cX9_findCheapest 142 = .ok (.iload_n 3, 1) := by decide +kernel
theorem dX9_findCheapest_143 : decode cX9_findCheapest 143 = .ok (.invokevirtual 208, 3) := by decide +kernel
theorem dX9_findCheapest_146 : decode cX9_findCheapest 146 = .ok (.ldc 199, 2) := by decide +kernel
theorem dX9_findCheapest_148 : decode cX9_findCheapest 148 = .ok (.istore 8, 2) := by decide +kernel
theorem dX9_findCheapest_150 : decode cX9_findCheapest 150 = .ok (.iload_n 2, 1) := by decide +kernel
theorem dX9_findCheapest_151 : decode cX9_findCheapest 151 = .ok (.istore 9, 2) := by decide +kernel
theorem dX9_findCheapest_153 : decode cX9_findCheapest 153 = .ok (.iload 9, 2) := by decide +kernel
theorem dX9_findCheapest_155 : decode cX9_findCheapest 155 = .ok (.iload_n 3, 1) := by decide +kernel
theorem dX9_findCheapest_156 : decode cX9_findCheapest 156 = .ok (.if_icmp .gt 35, 3) := by decide +kernel
theorem dX9_findCheapest_159 : decode cX9_findCheapest 159 = .ok (.aload_n 0, 1) := by decide +kernel
theorem dX9_findCheapest_160 : decode cX9_findCheapest 160 = .ok (.getfield 102, 3) := by decide +kernel
theorem dX9_findCheapest_163 : decode cX9_findCheapest 163 = .ok (.iload 9, 2) := by decide +kernel
theorem dX9_findCheapest_165 : decode cX9_findCheapest 165 = .ok (.iaload, 1) := by decide +kernel
theorem dX9_findCheapest_166 : decode cX9_findCheapest 166 = .ok (.iload 8, 2) := by decide +kernel
theorem dX9_findCheapest_168 : decode cX9_findCheapest 168 = .ok (.if_icmp .ge 13, 3) := by decide +kernel
theorem dX9_findCheapest_171 : decode cX9_findCheapest 171 = .ok (.aload_n 0, 1) := by decide +kernel
theorem dX9_findCheapest_172 : decode cX9_findCheapest 172 = .ok (.getfield 102, 3) := by decide +kernel
theorem dX9_findCheapest_175 : decode cX9_findCheapest 175 = .ok (.iload 9, 2) := by decide +kernel
theorem dX9_findCheapest_177 : decode cX9_findCheapest 177 = .ok (.iaload, 1) := by decide +kernel
theorem dX9_findCheapest_178 : decode cX9_findCheapest 178 = .ok (.goto 5, 3) := by decide +kernel
theorem dX9_findCheapest_181 : decode cX9_findCheapest 181 = .ok (.iload 8, 2) := by decide +kernel
theorem dX9_findCheapest_183 : decode cX9_findCheapest 183 = .ok (.istore 8, 2) := by decide +kernel
theorem dX9_findCheapest_185 : decode cX9_findCheapest 185 = .ok (.iinc 9 1, 3) := by decide +kernel
theorem dX9_findCheapest_188 : decode cX9_findCheapest 188 = .ok (.goto (-35), 3) := by decide +kernel
theorem dX9_findCheapest_191 : decode cX9_findCheapest 191 = .ok (.iload 6, 2) := by decide +kernel
theorem dX9_findCheapest_193 : decode cX9_findCheapest 193 = .ok (.aload_n 0, 1) := by decide +kernel
theorem dX9_findCheapest_194 : decode cX9_findCheapest 194 = .ok (.getfield 19, 3) := by decide +kernel
theorem dX9_findCheapest_197 : decode cX9_findCheapest 197 = .ok (.iload_n 1, 1) := by decide +kernel
theorem dX9_findCheapest_198 : decode cX9_findCheapest 198 = .ok (.iaload, 1) := by decide +kernel
theorem dX9_findCheapest_199 : decode cX9_findCheapest 199 = .ok (.iload 8, 2) := by decide +kernel
theorem dX9_findCheapest_201 : decode cX9_findCheapest 201 = .ok (.imul, 1) := by decide +kernel
theorem dX9_findCheapest_202 : decode cX9_findCheapest 202 = .ok (.iadd, 1) := by decide +kernel
theorem dX9_findCheapest_203 : decode cX9_findCheapest 203 = .ok (.istore 6, 2) := by decide +kernel
theorem dX9_findCheapest_205 : decode cX9_findCheapest 205 = .ok (.iload 8, 2) := by decide +kernel
theorem dX9_findCheapest_207 : decode cX9_findCheapest 207 = .ok (.ldc 199, 2) := by decide +kernel
theorem dX9_findCheapest_209 : decode cX9_findCheapest 209 = .ok (.if_icmp .ge 31, 3) := by decide +kernel
theorem dX9_findCheapest_212 : decode cX9_findCheapest 212 = .ok (.iload 4, 2) := by decide +kernel
theorem dX9_findCheapest_214 : decode cX9_findCheapest 214 = .ok (.bipush (-9), 2) := by decide +kernel
theorem dX9_findCheapest_216 : decode cX9_findCheapest 216 = .ok (.if_icmp .eq 10, 3) := by decide +kernel
theorem dX9_findCheapest_219 : decode cX9_findCheapest 219 = .ok (.iload 6, 2) := by decide +kernel
theorem dX9_findCheapest_221 : decode cX9_findCheapest 221 = .ok (.iload 4, 2) := by decide +kernel
theorem dX9_findCheapest_223 : decode cX9_findCheapest 223 = .ok (.if_icmp .ge 17, 3) := by decide +kernel
theorem dX9_findCheapest_226 : decode cX9_findCheapest 226 = .ok (.iload 6, 2) := by decide +kernel
theorem dX9_findCheapest_228 : decode cX9_findCheapest 228 = .ok (.istore 4, 2) := by decide +kernel
theorem dX9_findCheapest_230 : decode cX9_findCheapest 230 = .ok (.aload_n 0, 1) := by decide +kernel
theorem dX9_findCheapest_231 : decode cX9_findCheapest 231 = .ok (.iload 5, 2) := by decide +kernel
theorem dX9_findCheapest_233 : decode cX9_findCheapest 233 = .ok (.iload 8, 2) := by decide +kernel
theorem dX9_findCheapest_235 : decode cX9_findCheapest 235 = .ok (.iload_n 2, 1) := by decide +kernel
theorem dX9_findCheapest_236 : decode cX9_findCheapest 236 = .ok (.iload_n 3, 1) := by decide +kernel
theorem dX9_findCheapest_237 : decode cX9_findCheapest 237 = .ok (.invokevirtual 212, 3) := by decide +kernel
theorem dX9_findCheapest_240 : decode cX9_findCheapest 240 = .ok (.iinc 5 1, 3) := by decide +kernel
theorem dX9_findCheapest_243 : decode cX9_findCheapest 243 = .ok (.goto (-211), 3) := by decide +kernel
theorem dX9_findCheapest_246 : decode cX9_findCheapest 246 = .ok (.iload 4, 2) := by decide +kernel
theorem dX9_findCheapest_248 : decode cX9_findCheapest 248 = .ok (.ireturn, 1) := by decide +kernel
theorem dX9_cheapest_0 : decode cX9_cheapest 0 = .ok (.aload_n 0, 1) := by decide +kernel
theorem dX9_cheapest_1 : decode cX9_cheapest 1 = .ok (.iconst 0, 1) := by decide +kernel
theorem dX9_cheapest_2 : decode cX9_cheapest 2 = .ok (.putfield 117, 3) := by decide +kernel
theorem dX9_cheapest_5 : decode cX9_cheapest 5 = .ok (.aload_n 0, 1) := by decide +kernel
theorem dX9_cheapest_6 : decode cX9_cheapest 6 = .ok (.iload_n 1, 1) := by decide +kernel
theorem dX9_cheapest_7 : decode cX9_cheapest 7 = .ok (.invokevirtual 187, 3) := by decide +kernel
theorem dX9_cheapest_10 : decode cX9_cheapest 10 = .ok (.ifCond .eq 5, 3) := by decide +kernel
theorem dX9_cheapest_13 : decode cX9_cheapest 13 = .ok (.iconst (-1), 1) := by decide +kernel
theorem dX9_cheapest_14 : decode cX9_cheapest 14 = .ok (.ireturn, 1) := by decide +kernel
theorem dX9_cheapest_15 : decode cX9_cheapest 15 = .ok (.iload_n 2, 1) := by decide +kernel
theorem dX9_cheapest_16 : decode cX9_cheapest 16 = .ok (.i2l, 1) := by decide +kernel
theorem dX9_cheapest_17 : decode cX9_cheapest 17 = .ok (.lconst 1, 1) := by decide +kernel
theorem dX9_cheapest_18 : decode cX9_cheapest 18 = .ok (.ldc2_w 216, 3) := by decide +kernel
theorem dX9_cheapest_21 : decode cX9_cheapest 21 = .ok (.invokestatic 123, 3) := by decide +kernel
theorem dX9_cheapest_24 : decode cX9_cheapest 24 = .ok (.ifCond .eq 12, 3) := by decide +kernel
theorem dX9_cheapest_27 : decode cX9_cheapest 27 = .ok (.aload_n 0, 1) := by decide +kernel
theorem dX9_cheapest_28 : decode cX9_cheapest 28 = .ok (.iload_n 1, 1) := by decide +kernel
theorem dX9_cheapest_29 : decode cX9_cheapest 29 = .ok (.iload_n 2, 1) := by decide +kernel
theorem dX9_cheapest_30 : decode cX9_cheapest 30 = .ok (.invokevirtual 218, 3) := by decide +kernel
theorem dX9_cheapest_33 : decode cX9_cheapest 33 = .ok (.goto 5, 3) := by decide +kernel
theorem dX9_cheapest_36 : decode cX9_cheapest 36 = .ok (.bipush (-2), 2) := by decide +kernel
theorem dX9_cheapest_38 : decode cX9_cheapest 38 = .ok (.ireturn, 1) := by decide +kernel
theorem dX9_cheapestBy_0 : decode cX9_cheapestBy 0 = .ok (.aload_n 0, 1) := by decide +kernel
theorem dX9_cheapestBy_1 : decode cX9_cheapestBy 1 = .ok (.iconst 0, 1) := by decide +kernel
theorem dX9_cheapestBy_2 : decode cX9_cheapestBy 2 = .ok (.putfield 117, 3) := by decide +kernel
theorem dX9_cheapestBy_5 : decode cX9_cheapestBy 5 = .ok (.aload_n 0, 1) := by decide +kernel
theorem dX9_cheapestBy_6 : decode cX9_cheapestBy 6 = .ok (.iload_n 1, 1) := by decide +kernel
theorem dX9_cheapestBy_7 : decode cX9_cheapestBy 7 = .ok (.invokevirtual 187, 3) := by decide +kernel
theorem dX9_cheapestBy_10 : decode cX9_cheapestBy 10 = .ok (.ifCond .ne 11, 3) := by decide +kernel
theorem dX9_cheapestBy_13 : decode cX9_cheapestBy 13 = .ok (.aload_n 0, 1) := by decide +kernel
theorem dX9_cheapestBy_14 : decode cX9_cheapestBy 14 = .ok (.iload_n 3, 1) := by decide +kernel
theorem dX9_cheapestBy_15 : decode cX9_cheapestBy 15 = .ok (.invokevirtual 180, 3) := by decide +kernel
theorem dX9_cheapestBy_18 : decode cX9_cheapestBy 18 = .ok (.ifCond .eq 5, 3) := by decide +kernel
theorem dX9_cheapestBy_21 : decode cX9_cheapestBy 21 = .ok (.iconst (-1), 1) := by decide +kernel
theorem dX9_cheapestBy_22 : decode cX9_cheapestBy 22 = .ok (.ireturn, 1) := by decide +kernel
theorem dX9_cheapestBy_23 : decode cX9_cheapestBy 23 = .ok (.iload_n 2, 1) := by decide +kernel
theorem dX9_cheapestBy_24 : decode cX9_cheapestBy 24 = .ok (.i2l, 1) := by decide +kernel
theorem dX9_cheapestBy_25 : decode cX9_cheapestBy 25 = .ok (.lconst 1, 1) := by decide +kernel
theorem dX9_cheapestBy_26 : decode cX9_cheapestBy 26 = .ok (.ldc2_w 216, 3) := by decide +kernel
theorem dX9_cheapestBy_29 : decode cX9_cheapestBy 29 = .ok (.invokestatic 123, 3) := by decide +kernel
theorem dX9_cheapestBy_32 : decode cX9_cheapestBy 32 = .ok (.ifCond .ne 6, 3) := by decide +kernel
theorem dX9_cheapestBy_35 : decode cX9_cheapestBy 35 = .ok (.bipush (-2), 2) := by decide +kernel
theorem dX9_cheapestBy_37 : decode cX9_cheapestBy 37 = .ok (.ireturn, 1) := by decide +kernel
theorem dX9_cheapestBy_38 : decode cX9_cheapestBy 38 = .ok (.aload_n 0, 1) := by decide +kernel
theorem dX9_cheapestBy_39 : decode cX9_cheapestBy 39 = .ok (.iload_n 1, 1) := by decide +kernel
theorem dX9_cheapestBy_40 : decode cX9_cheapestBy 40 = .ok (.iload_n 2, 1) := by decide +kernel
theorem dX9_cheapestBy_41 : decode cX9_cheapestBy 41 = .ok (.invokevirtual 218, 3) := by decide +kernel
theorem dX9_cheapestBy_44 : decode cX9_cheapestBy 44 = .ok (.bipush (-9), 2) := by decide +kernel
theorem dX9_cheapestBy_46 : decode cX9_cheapestBy 46 = .ok (.if_icmp .ne 8, 3) := by decide +kernel
theorem dX9_cheapestBy_49 : decode cX9_cheapestBy 49 = .ok (.bipush (-9), 2) := by decide +kernel
theorem dX9_cheapestBy_51 : decode cX9_cheapestBy 51 = .ok (.goto 9, 3) := by decide +kernel
theorem dX9_cheapestBy_54 : decode cX9_cheapestBy 54 = .ok (.aload_n 0, 1) := by decide +kernel
theorem dX9_cheapestBy_55 : decode cX9_cheapestBy 55 = .ok (.getfield 105, 3) := by decide +kernel
theorem dX9_cheapestBy_58 : decode cX9_cheapestBy 58 = .ok (.iload_n 3, 1) := by decide +kernel
theorem dX9_cheapestBy_59 : decode cX9_cheapestBy 59 = .ok (.iaload, 1) := by decide +kernel
theorem dX9_cheapestBy_60 : decode cX9_cheapestBy 60 = .ok (.ireturn, 1) := by decide +kernel
theorem dX9_exchange_0 : decode cX9_exchange 0 = .ok (.aload_n 0, 1) := by decide +kernel
theorem dX9_exchange_1 : decode cX9_exchange 1 = .ok (.iconst 0, 1) := by decide +kernel
theorem dX9_exchange_2 : decode cX9_exchange 2 = .ok (.putfield 117, 3) := by decide +kernel
theorem dX9_exchange_5 : decode cX9_exchange 5 = .ok (.iload_n 1, 1) := by decide +kernel
theorem dX9_exchange_6 : decode cX9_exchange 6 = .ok (.i2l, 1) := by decide +kernel
theorem dX9_exchange_7 : decode cX9_exchange 7 = .ok (.lconst 0, 1) := by decide +kernel
theorem dX9_exchange_8 : decode cX9_exchange 8 = .ok (.ldc2_w 222, 3) := by decide +kernel
theorem dX9_exchange_11 : decode cX9_exchange 11 = .ok (.invokestatic 123, 3) := by decide +kernel
theorem dX9_exchange_14 : decode cX9_exchange 14 = .ok (.ifCond .eq 15, 3) := by decide +kernel
theorem dX9_exchange_17 : decode cX9_exchange 17 = .ok (.iload_n 2, 1) := by decide +kernel
theorem dX9_exchange_18 : decode cX9_exchange 18 = .ok (.i2l, 1) := by decide +kernel
theorem dX9_exchange_19 : decode cX9_exchange 19 = .ok (.lconst 0, 1) := by decide +kernel
theorem dX9_exchange_20 : decode cX9_exchange 20 = .ok (.ldc2_w 222, 3) := by decide +kernel
theorem dX9_exchange_23 : decode cX9_exchange 23 = .ok (.invokestatic 123, 3) := by decide +kernel
theorem dX9_exchange_26 : decode cX9_exchange 26 = .ok (.ifCond .ne 5, 3) := by decide +kernel
theorem dX9_exchange_29 : decode cX9_exchange 29 = .ok (.iconst (-1), 1) := by decide +kernel
theorem dX9_exchange_30 : decode cX9_exchange 30 = .ok (.ireturn, 1) := by decide +kernel
theorem dX9_exchange_31 : decode cX9_exchange 31 = .ok (.iload_n 1, 1) := by decide +kernel
theorem dX9_exchange_32 : decode cX9_exchange 32 = .ok (.iload_n 2, 1) := by decide +kernel
theorem dX9_exchange_33 : decode cX9_exchange 33 = .ok (.if_icmp .eq 41, 3) := by decide +kernel
theorem dX9_exchange_36 : decode cX9_exchange 36 = .ok (.iload_n 3, 1) := by decide +kernel
theorem dX9_exchange_37 : decode cX9_exchange 37 = .ok (.i2l, 1) := by decide +kernel
theorem dX9_exchange_38 : decode cX9_exchange 38 = .ok (.lconst 1, 1) := by decide +kernel
theorem dX9_exchange_39 : decode cX9_exchange 39 = .ok (.ldc2_w 138, 3) := by decide +kernel
theorem dX9_exchange_42 : decode cX9_exchange 42 = .ok (.invokestatic 123, 3) := by decide +kernel
theorem dX9_exchange_45 : decode cX9_exchange 45 = .ok (.ifCond .eq 29, 3) := by decide +kernel
theorem dX9_exchange_48 : decode cX9_exchange 48 = .ok (.iload 4, 2) := by decide +kernel
theorem dX9_exchange_50 : decode cX9_exchange 50 = .ok (.i2l, 1) := by decide +kernel
theorem dX9_exchange_51 : decode cX9_exchange 51 = .ok (.lconst 1, 1) := by decide +kernel
theorem dX9_exchange_52 : decode cX9_exchange 52 = .ok (.ldc2_w 138, 3) := by decide +kernel
theorem dX9_exchange_55 : decode cX9_exchange 55 = .ok (.invokestatic 123, 3) := by decide +kernel
theorem dX9_exchange_58 : decode cX9_exchange 58 = .ok (.ifCond .eq 16, 3) := by decide +kernel
theorem dX9_exchange_61 : decode cX9_exchange 61 = .ok (.iload 5, 2) := by decide +kernel
theorem dX9_exchange_63 : decode cX9_exchange 63 = .ok (.i2l, 1) := by decide +kernel
theorem dX9_exchange_64 : decode cX9_exchange 64 = .ok (.lconst 1, 1) := by decide +kernel
theorem dX9_exchange_65 : decode cX9_exchange 65 = .ok (.ldc2_w 191, 3) := by decide +kernel
theorem dX9_exchange_68 : decode cX9_exchange 68 = .ok (.invokestatic 123, 3) := by decide +kernel
theorem dX9_exchange_71 : decode cX9_exchange 71 = .ok (.ifCond .ne 6, 3) := by decide +kernel
theorem dX9_exchange_74 : decode cX9_exchange 74 = .ok (.bipush (-2), 2) := by decide +kernel
theorem dX9_exchange_76 : decode cX9_exchange 76 = .ok (.ireturn, 1) := by decide +kernel
theorem dX9_exchange_77 : decode cX9_exchange 77 = .ok (.aload_n 0, 1) := by decide +kernel
theorem dX9_exchange_78 : decode cX9_exchange 78 = .ok (.getfield 224, 3) := by decide +kernel
theorem dX9_exchange_81 : decode cX9_exchange 81 = .ok (.bipush 8, 2) := by decide +kernel
theorem dX9_exchange_83 : decode cX9_exchange 83 = .ok (.if_icmp .ne 6, 3) := by decide +kernel
theorem dX9_exchange_86 : decode cX9_exchange 86 = .ok (.bipush (-4), 2) := by decide +kernel
theorem dX9_exchange_88 : decode cX9_exchange 88 = .ok (.ireturn, 1) := by decide +kernel
theorem dX9_exchange_89 : decode cX9_exchange 89 = .ok (.aload_n 0, 1) := by decide +kernel
theorem dX9_exchange_90 : decode cX9_exchange 90 = .ok (.getfield 66, 3) := by decide +kernel
theorem dX9_exchange_93 : decode cX9_exchange 93 = .ok (.aload_n 0, 1) := by decide +kernel
theorem dX9_exchange_94 : decode cX9_exchange 94 = .ok (.getfield 224, 3) := by decide +kernel
theorem dX9_exchange_97 : decode cX9_exchange 97 = .ok (.iload_n 1, 1) := by decide +kernel
theorem dX9_exchange_98 : decode cX9_exchange 98 = .ok (.iastore, 1) := by decide +kernel
theorem dX9_exchange_99 : decode cX9_exchange 99 = .ok (.aload_n 0, 1) := by decide +kernel
theorem dX9_exchange_100 : decode cX9_exchange 100 = .ok (.getfield 69, 3) := by decide +kernel
theorem dX9_exchange_103 : decode cX9_exchange 103 = .ok (.aload_n 0, 1) := by decide +kernel
theorem dX9_exchange_104 : decode cX9_exchange 104 = .ok (.getfield 224, 3) := by decide +kernel
theorem dX9_exchange_107 : decode cX9_exchange 107 = .ok (.iload_n 2, 1) := by decide +kernel
theorem dX9_exchange_108 : decode cX9_exchange 108 = .ok (.iastore, 1) := by decide +kernel
theorem dX9_exchange_109 : decode cX9_exchange 109 = .ok (.aload_n 0, 1) := by decide +kernel
theorem dX9_exchange_110 : decode cX9_exchange 110 = .ok (.getfield 72, 3) := by decide +kernel
theorem dX9_exchange_113 : decode cX9_exchange 113 = .ok (.aload_n 0, 1) := by decide +kernel
theorem dX9_exchange_114 : decode cX9_exchange 114 = .ok (.getfield 224, 3) := by decide +kernel
theorem dX9_exchange_117 : decode cX9_exchange 117 = .ok (.iload_n 3, 1) := by decide +kernel
theorem dX9_exchange_118 : decode cX9_exchange 118 = .ok (.iastore, 1) := by decide +kernel
theorem dX9_exchange_119 : decode cX9_exchange 119 = .ok (.aload_n 0, 1) := by decide +kernel
theorem dX9_exchange_120 : decode cX9_exchange 120 = .ok (.getfield 75, 3) := by decide +kernel
theorem dX9_exchange_123 : decode cX9_exchange 123 = .ok (.aload_n 0, 1) := by decide +kernel
theorem dX9_exchange_124 : decode cX9_exchange 124 = .ok (.getfield 224, 3) := by decide +kernel
theorem dX9_exchange_127 : decode cX9_exchange 127 = .ok (.iload 4, 2) := by decide +kernel
theorem dX9_exchange_129 : decode cX9_exchange 129 = .ok (.iastore, 1) := by decide +kernel
theorem dX9_exchange_130 : decode cX9_exchange 130 = .ok (.aload_n 0, 1) := by decide +kernel
theorem dX9_exchange_131 : decode cX9_exchange 131 = .ok (.getfield 78, 3) := by decide +kernel
theorem dX9_exchange_134 : decode cX9_exchange 134 = .ok (.aload_n 0, 1) := by decide +kernel
theorem dX9_exchange_135 : decode cX9_exchange 135 = .ok (.getfield 224, 3) := by decide +kernel
theorem dX9_exchange_138 : decode cX9_exchange 138 = .ok (.iload 5, 2) := by decide +kernel
theorem dX9_exchange_140 : decode cX9_exchange 140 = .ok (.iastore, 1) := by decide +kernel
theorem dX9_exchange_141 : decode cX9_exchange 141 = .ok (.aload_n 0, 1) := by decide +kernel
theorem dX9_exchange_142 : decode cX9_exchange 142 = .ok (.dup, 1) := by decide +kernel
theorem dX9_exchange_143 : decode cX9_exchange 143 = .ok (.getfield 224, 3) := by decide +kernel
theorem dX9_exchange_146 : decode cX9_exchange 146 = .ok (.iconst 1, 1) := by decide +kernel
theorem dX9_exchange_147 : decode cX9_exchange 147 = .ok (.iadd, 1) := by decide +kernel
theorem dX9_exchange_148 : decode cX9_exchange 148 = .ok (.putfield 224, 3) := by decide +kernel
theorem dX9_exchange_151 : decode cX9_exchange 151 = .ok (.aload_n 0, 1) := by decide +kernel
theorem dX9_exchange_152 : decode cX9_exchange 152 = .ok (.getfield 224, 3) := by decide +kernel
theorem dX9_exchange_155 : decode cX9_exchange 155 = .ok (.ireturn, 1) := by decide +kernel
theorem dX9_unchange_0 : decode cX9_unchange 0 = .ok (.aload_n 0, 1) := by decide +kernel
theorem dX9_unchange_1 : decode cX9_unchange 1 = .ok (.iconst 0, 1) := by decide +kernel
theorem dX9_unchange_2 : decode cX9_unchange 2 = .ok (.putfield 117, 3) := by decide +kernel
theorem dX9_unchange_5 : decode cX9_unchange 5 = .ok (.aload_n 0, 1) := by decide +kernel
theorem dX9_unchange_6 : decode cX9_unchange 6 = .ok (.getfield 224, 3) := by decide +kernel
theorem dX9_unchange_9 : decode cX9_unchange 9 = .ok (.istore_n 1, 1) := by decide +kernel
theorem dX9_unchange_10 : decode cX9_unchange 10 = .ok (.aload_n 0, 1) := by decide +kernel
theorem dX9_unchange_11 : decode cX9_unchange 11 = .ok (.iconst 0, 1) := by decide +kernel
theorem dX9_unchange_12 : decode cX9_unchange 12 = .ok (.putfield 224, 3) := by decide +kernel
theorem dX9_unchange_15 : decode cX9_unchange 15 = .ok (.iload_n 1, 1) := by decide +kernel
theorem dX9_unchange_16 : decode cX9_unchange 16 = .ok (.ireturn, 1) := by decide +kernel
theorem dX9_isRing_0 : decode cX9_isRing 0 = .ok (.iconst 1, 1) := by decide +kernel
theorem dX9_isRing_1 : decode cX9_isRing 1 = .ok (.istore_n 2, 1) := by decide +kernel
theorem dX9_isRing_2 : decode cX9_isRing 2 = .ok (.iconst 0, 1) := by decide +kernel
theorem dX9_isRing_3 : decode cX9_isRing 3 = .ok (.istore_n 3, 1) := by decide +kernel
theorem dX9_isRing_4 : decode cX9_isRing 4 = .ok (.iload_n 3, 1) := by decide +kernel
theorem dX9_isRing_5 : decode cX9_isRing 5 = .ok (.iload_n 1, 1) := by decide +kernel
theorem dX9_isRing_6 : decode cX9_isRing 6 = .ok (.if_icmp .ge 99, 3) := by decide +kernel
theorem dX9_isRing_9 : decode cX9_isRing 9 = .ok (.iload_n 2, 1) := by decide +kernel
theorem dX9_isRing_10 : decode cX9_isRing 10 = .ok (.ifCond .eq 36, 3) := by decide +kernel
theorem dX9_isRing_13 : decode cX9_isRing 13 = .ok (.aload_n 0, 1) := by decide +kernel
theorem dX9_isRing_14 : decode cX9_isRing 14 = .ok (.getfield 69, 3) := by decide +kernel
theorem dX9_isRing_17 : decode cX9_isRing 17 = .ok (.aload_n 0, 1) := by decide +kernel
theorem dX9_isRing_18 : decode cX9_isRing 18 = .ok (.getfield 108, 3) := by decide +kernel
theorem dX9_isRing_21 : decode cX9_isRing 21 = .ok (.iload_n 3, 1) := by decide +kernel
theorem dX9_isRing_22 : decode cX9_isRing 22 = .ok (.iaload, 1) := by decide +kernel
theorem dX9_isRing_23 : decode cX9_isRing 23 = .ok (.iaload, 1) := by decide +kernel
theorem dX9_isRing_24 : decode cX9_isRing 24 = .ok (.aload_n 0, 1) := by decide +kernel
theorem dX9_isRing_25 : decode cX9_isRing 25 = .ok (.getfield 66, 3) := by decide +kernel
theorem dX9_isRing_28 : decode cX9_isRing 28 = .ok (.aload_n 0, 1) := by decide +kernel
theorem dX9_isRing_29 : decode cX9_isRing 29 = .ok (.getfield 108, 3) := by decide +kernel
theorem dX9_isRing_32 : decode cX9_isRing 32 = .ok (.iload_n 3, 1) := by decide +kernel
theorem dX9_isRing_33 : decode cX9_isRing 33 = .ok (.iconst 1, 1) := by decide +kernel
theorem dX9_isRing_34 : decode cX9_isRing 34 = .ok (.iadd, 1) := by decide +kernel
theorem dX9_isRing_35 : decode cX9_isRing 35 = .ok (.iload_n 1, 1) := by decide +kernel
theorem dX9_isRing_36 : decode cX9_isRing 36 = .ok (.irem, 1) := by decide +kernel
theorem dX9_isRing_37 : decode cX9_isRing 37 = .ok (.iaload, 1) := by decide +kernel
theorem dX9_isRing_38 : decode cX9_isRing 38 = .ok (.iaload, 1) := by decide +kernel
theorem dX9_isRing_39 : decode cX9_isRing 39 = .ok (.if_icmp .ne 7, 3) := by decide +kernel
theorem dX9_isRing_42 : decode cX9_isRing 42 = .ok (.iconst 1, 1) := by decide +kernel
theorem dX9_isRing_43 : decode cX9_isRing 43 = .ok (.goto 4, 3) := by decide +kernel
theorem dX9_isRing_46 : decode cX9_isRing 46 = .ok (.iconst 0, 1) := by decide +kernel
theorem dX9_isRing_47 : decode cX9_isRing 47 = .ok (.istore_n 2, 1) := by decide +kernel
theorem dX9_isRing_48 : decode cX9_isRing 48 = .ok (.iconst 0, 1) := by decide +kernel
theorem dX9_isRing_49 : decode cX9_isRing 49 = .ok (.istore 4, 2) := by decide +kernel
theorem dX9_isRing_51 : decode cX9_isRing 51 = .ok (.iload 4, 2) := by decide +kernel
theorem dX9_isRing_53 : decode cX9_isRing 53 = .ok (.iload_n 3, 1) := by decide +kernel
theorem dX9_isRing_54 : decode cX9_isRing 54 = .ok (.if_icmp .ge 45, 3) := by decide +kernel
theorem dX9_isRing_57 : decode cX9_isRing 57 = .ok (.iload_n 2, 1) := by decide +kernel
theorem dX9_isRing_58 : decode cX9_isRing 58 = .ok (.ifCond .eq 33, 3) := by decide +kernel
theorem dX9_isRing_61 : decode cX9_isRing 61 = .ok (.aload_n 0, 1) := by decide +kernel
theorem dX9_isRing_62 : decode cX9_isRing 62 = .ok (.getfield 66, 3) := by decide +kernel
theorem dX9_isRing_65 : decode cX9_isRing 65 = .ok (.aload_n 0, 1) := by decide +kernel
theorem dX9_isRing_66 : decode cX9_isRing 66 = .ok (.getfield 108, 3) := by decide +kernel
theorem dX9_isRing_69 : decode cX9_isRing 69 = .ok (.iload_n 3, 1) := by decide +kernel
theorem dX9_isRing_70 : decode cX9_isRing 70 = .ok (.iaload, 1) := by decide +kernel
theorem dX9_isRing_71 : decode cX9_isRing 71 = .ok (.iaload, 1) := by decide +kernel
theorem dX9_isRing_72 : decode cX9_isRing 72 = .ok (.aload_n 0, 1) := by decide +kernel
theorem dX9_isRing_73 : decode cX9_isRing 73 = .ok (.getfield 66, 3) := by decide +kernel
theorem dX9_isRing_76 : decode cX9_isRing 76 = .ok (.aload_n 0, 1) := by decide +kernel
theorem dX9_isRing_77 : decode cX9_isRing 77 = .ok (.getfield 108, 3) := by decide +kernel
theorem dX9_isRing_80 : decode cX9_isRing 80 = .ok (.iload 4, 2) := by decide +kernel
theorem dX9_isRing_82 : decode cX9_isRing 82 = .ok (.iaload, 1) := by decide +kernel
theorem dX9_isRing_83 : decode cX9_isRing 83 = .ok (.iaload, 1) := by decide +kernel
theorem dX9_isRing_84 : decode cX9_isRing 84 = .ok (.if_icmp .eq 7, 3) := by decide +kernel
theorem dX9_isRing_87 : decode cX9_isRing 87 = .ok (.iconst 1, 1) := by decide +kernel
theorem dX9_isRing_88 : decode cX9_isRing 88 = .ok (.goto 4, 3) := by decide +kernel
theorem dX9_isRing_91 : decode cX9_isRing 91 = .ok (.iconst 0, 1) := by decide +kernel
theorem dX9_isRing_92 : decode cX9_isRing 92 = .ok (.istore_n 2, 1) := by decide +kernel
theorem dX9_isRing_93 : decode cX9_isRing 93 = .ok (.iinc 4 1, 3) := by decide +kernel
theorem dX9_isRing_96 : decode cX9_isRing 96 = .ok (.goto (-45), 3) := by decide +kernel
theorem dX9_isRing_99 : decode cX9_isRing 99 = .ok (.iinc 3 1, 3) := by decide +kernel
theorem dX9_isRing_102 : decode cX9_isRing 102 = .ok (.goto (-98), 3) := by decide +kernel
theorem dX9_isRing_105 : decode cX9_isRing 105 = .ok (.iload_n 2, 1) := by decide +kernel
theorem dX9_isRing_106 : decode cX9_isRing 106 = .ok (.ireturn, 1) := by decide +kernel
theorem dX9_findRing_0 : decode cX9_findRing 0 = .ok (.aload_n 0, 1) := by decide +kernel
theorem dX9_findRing_1 : decode cX9_findRing 1 = .ok (.iconst 0, 1) := by decide +kernel
theorem dX9_findRing_2 : decode cX9_findRing 2 = .ok (.putfield 227, 3) := by decide +kernel
theorem dX9_findRing_5 : decode cX9_findRing 5 = .ok (.aload_n 0, 1) := by decide +kernel
theorem dX9_findRing_6 : decode cX9_findRing 6 = .ok (.lconst 0, 1) := by decide +kernel
theorem dX9_findRing_7 : decode cX9_findRing 7 = .ok (.putfield 230, 3) := by decide +kernel
theorem dX9_findRing_10 : decode cX9_findRing 10 = .ok (.aload_n 0, 1) := by decide +kernel
theorem dX9_findRing_11 : decode cX9_findRing 11 = .ok (.lconst 1, 1) := by decide +kernel
theorem dX9_findRing_12 : decode cX9_findRing 12 = .ok (.putfield 234, 3) := by decide +kernel
theorem dX9_findRing_15 : decode cX9_findRing 15 = .ok (.iconst 2, 1) := by decide +kernel
theorem dX9_findRing_16 : decode cX9_findRing 16 = .ok (.istore_n 2, 1) := by decide +kernel
theorem dX9_findRing_17 : decode cX9_findRing 17 = .ok (.iload_n 2, 1) := by decide +kernel
theorem dX9_findRing_18 : decode cX9_findRing 18 = .ok (.iconst 4, 1) := by decide +kernel
theorem dX9_findRing_19 : decode cX9_findRing 19 = .ok (.if_icmp .ge 279, 3) := by decide +kernel
theorem dX9_findRing_22 : decode cX9_findRing 22 = .ok (.iload_n 2, 1) := by decide +kernel
theorem dX9_findRing_23 : decode cX9_findRing 23 = .ok (.iconst 2, 1) := by decide +kernel
theorem dX9_findRing_24 : decode cX9_findRing 24 = .ok (.if_icmp .ne 15, 3) := by decide +kernel
theorem dX9_findRing_27 : decode cX9_findRing 27 = .ok (.aload_n 0, 1) := by decide +kernel
theorem dX9_findRing_28 : decode cX9_findRing 28 = .ok (.getfield 224, 3) := by decide +kernel
theorem dX9_findRing_31 : decode cX9_findRing 31 = .ok (.aload_n 0, 1) := by decide +kernel
theorem dX9_findRing_32 : decode cX9_findRing 32 = .ok (.getfield 224, 3) := by decide +kernel
theorem dX9_findRing_35 : decode cX9_findRing 35 = .ok (.imul, 1) := by decide +kernel
theorem dX9_findRing_36 : decode cX9_findRing 36 = .ok (.goto 17, 3) := by decide +kernel
theorem dX9_findRing_39 : decode cX9_findRing 39 = .ok (.aload_n 0, 1) := by decide +kernel
theorem dX9_findRing_40 : decode cX9_findRing 40 = .ok (.getfield 224, 3) := by decide +kernel
theorem dX9_findRing_43 : decode cX9_findRing 43 = .ok (.aload_n 0, 1) := by decide +kernel
theorem dX9_findRing_44 : decode cX9_findRing 44 = .ok (.getfield 224, 3) := by decide +kernel
theorem dX9_findRing_47 : decode cX9_findRing 47 = .ok (.imul, 1) := by decide +kernel
theorem dX9_findRing_48 : decode cX9_findRing 48 = .ok (.aload_n 0, 1) := by decide +kernel
theorem dX9_findRing_49 : decode cX9_findRing 49 = .ok (.getfield 224, 3) := by decide +kernel
theorem dX9_findRing_52 : decode cX9_findRing 52 = .ok (.imul, 1) := by decide +kernel
theorem dX9_findRing_53 : decode cX9_findRing 53 = .ok (.istore_n 3, 1) := by decide +kernel
theorem dX9_findRing_54 : decode cX9_findRing 54 = .ok (.iconst 0, 1) := by decide +kernel
theorem dX9_findRing_55 : decode cX9_findRing 55 = .ok (.istore 4, 2) := by decide +kernel
theorem dX9_findRing_57 : decode cX9_findRing 57 = .ok (.iload 4, 2) := by decide +kernel
theorem dX9_findRing_59 : decode cX9_findRing 59 = .ok (.iload_n 3, 1) := by decide +kernel
theorem dX9_findRing_60 : decode cX9_findRing 60 = .ok (.if_icmp .ge 232, 3) := by decide +kernel
theorem dX9_findRing_63 : decode cX9_findRing 63 = .ok (.iload 4, 2) := by decide +kernel
theorem dX9_findRing_65 : decode cX9_findRing 65 = .ok (.istore 5, 2) := by decide +kernel
theorem dX9_findRing_67 : decode cX9_findRing 67 = .ok (.iload_n 2, 1) := by decide +kernel
theorem dX9_findRing_68 : decode cX9_findRing 68 = .ok (.iconst 1, 1) := by decide +kernel
theorem dX9_findRing_69 : decode cX9_findRing 69 = .ok (.isub, 1) := by decide +kernel
theorem dX9_findRing_70 : decode cX9_findRing 70 = .ok (.istore 6, 2) := by decide +kernel
theorem dX9_findRing_72 : decode cX9_findRing 72 = .ok (.iload 6, 2) := by decide +kernel
theorem dX9_findRing_74 : decode cX9_findRing 74 = .ok (.ifCond .lt 32, 3) := by decide +kernel
theorem dX9_findRing_77 : decode cX9_findRing 77 = .ok (.aload_n 0, 1) := by decide +kernel
theorem dX9_findRing_78 : decode cX9_findRing 78 = .ok (.getfield 108, 3) := by decide +kernel
theorem dX9_findRing_81 : decode cX9_findRing 81 = .ok (.iload 6, 2) := by decide +kernel
theorem dX9_findRing_83 : decode cX9_findRing 83 = .ok (.iload 5, 2) := by decide +kernel
theorem dX9_findRing_85 : decode cX9_findRing 85 = .ok (.aload_n 0, 1) := by decide +kernel
theorem dX9_findRing_86 : decode cX9_findRing 86 = .ok (.getfield 224, 3) := by decide +kernel
theorem dX9_findRing_89 : decode cX9_findRing 89 = .ok (.irem, 1) := by decide +kernel
theorem dX9_findRing_90 : decode cX9_findRing 90 = .ok (.iastore, 1) := by decide +kernel
theorem dX9_findRing_91 : decode cX9_findRing 91 = .ok (.iload 5, 2) := by decide +kernel
theorem dX9_findRing_93 : decode cX9_findRing 93 = .ok (.aload_n 0, 1) := by decide +kernel
theorem dX9_findRing_94 : decode cX9_findRing 94 = .ok (.getfield 224, 3) := by decide +kernel
theorem dX9_findRing_97 : decode cX9_findRing 97 = .ok (.idiv, 1) := by decide +kernel
theorem dX9_findRing_98 : decode cX9_findRing 98 = .ok (.istore 5, 2) := by decide +kernel
theorem dX9_findRing_100 : decode cX9_findRing 100 = .ok (.iinc 6 (-1), 3) := by decide +kernel
theorem dX9_findRing_103 : decode cX9_findRing 103 = .ok (.goto (-31), 3) := by decide +kernel
theorem dX9_findRing_106 : decode cX9_findRing 106 = .ok (.aload_n 0, 1) := by decide +kernel
theorem dX9_findRing_107 : decode cX9_findRing 107 = .ok (.iload_n 2, 1) := by decide +kernel
theorem dX9_findRing_108 : decode cX9_findRing 108 = .ok (.invokevirtual 237, 3) := by decide +kernel
theorem dX9_findRing_111 : decode cX9_findRing 111 = .ok (.ifCond .eq 175, 3) := by decide +kernel
theorem dX9_findRing_114 : decode cX9_findRing 114 = .ok (.lconst 1, 1) := by decide +kernel
theorem dX9_findRing_115 : decode cX9_findRing 115 = .ok (.lstore 6, 2) := by decide +kernel
theorem dX9_findRing_117 : decode cX9_findRing 117 = .ok (.lconst 1, 1) := by decide +kernel
theorem dX9_findRing_118 : decode cX9_findRing 118 = .ok (.lstore 8, 2) := by decide +kernel
theorem dX9_findRing_120 : decode cX9_findRing 120 = .ok (.iconst 0, 1) := by decide +kernel
theorem dX9_findRing_121 : decode cX9_findRing 121 = .ok (.istore 10, 2) := by decide +kernel
theorem dX9_findRing_123 : decode cX9_findRing 123 = .ok (.iload 10, 2) := by decide +kernel
theorem dX9_findRing_125 : decode cX9_findRing 125 = .ok (.iload_n 2, 1) := by decide +kernel
theorem dX9_findRing_126 : decode cX9_findRing 126 = .ok (.if_icmp .ge 96, 3) := by decide +kernel
theorem dX9_findRing_129 : decode cX9_findRing 129 = .ok (.aload_n 0, 1) := by decide +kernel
theorem dX9_findRing_130 : decode cX9_findRing 130 = .ok (.getfield 108, 3) := by decide +kernel
theorem dX9_findRing_133 : decode cX9_findRing 133 = .ok (.iload 10, 2) := by decide +kernel
theorem dX9_findRing_135 : decode cX9_findRing 135 = .ok (.iaload, 1) := by decide +kernel
theorem dX9_findRing_136 : decode cX9_findRing 136 = .ok (.istore 11, 2) := by decide +kernel
theorem dX9_findRing_138 : decode cX9_findRing 138 = .ok (.lload 6, 2) := by decide +kernel
theorem dX9_findRing_140 : decode cX9_findRing 140 = .ok (.aload_n 0, 1) := by decide +kernel
theorem dX9_findRing_141 : decode cX9_findRing 141 = .ok (.getfield 69, 3) := by decide +kernel
theorem dX9_findRing_144 : decode cX9_findRing 144 = .ok (.iload 11, 2) := by decide +kernel
theorem dX9_findRing_146 : decode cX9_findRing 146 = .ok (.iaload, 1) := by decide +kernel
theorem dX9_findRing_147 : decode cX9_findRing 147 = .ok (.ifCond .ne 14, 3) := by decide +kernel
theorem dX9_findRing_150 : decode cX9_findRing 150 = .ok (.aload_n 0, 1) := by decide +kernel
theorem dX9_findRing_151 : decode cX9_findRing 151 = .ok (.getfield 75, 3) := by decide +kernel
theorem dX9_findRing_154 : decode cX9_findRing 154 = .ok (.iload 11, 2) := by decide +kernel
theorem dX9_findRing_156 : decode cX9_findRing 156 = .ok (.iaload, 1) := by decide +kernel
theorem dX9_findRing_157 : decode cX9_findRing 157 = .ok (.i2l, 1) := by decide +kernel
theorem dX9_findRing_158 : decode cX9_findRing 158 = .ok (.goto 13, 3) := by decide +kernel
theorem dX9_findRing_161 : decode cX9_findRing 161 = .ok (.aload_n 0, 1) := by decide +kernel
theorem dX9_findRing_162 : decode cX9_findRing 162 = .ok (.getfield 75, 3) := by decide +kernel
theorem dX9_findRing_165 : decode cX9_findRing 165 = .ok (.iload 11, 2) := by decide +kernel
theorem dX9_findRing_167 : decode cX9_findRing 167 = .ok (.iaload, 1) := by decide +kernel
theorem dX9_findRing_168 : decode cX9_findRing 168 = .ok (.iload_n 1, 1) := by decide +kernel
theorem dX9_findRing_169 : decode cX9_findRing 169 = .ok (.imul, 1) := by decide +kernel
theorem dX9_findRing_170 : decode cX9_findRing 170 = .ok (.i2l, 1) := by decide +kernel
theorem dX9_findRing_171 : decode cX9_findRing 171 = .ok (.lmul, 1) := by decide +kernel
theorem dX9_findRing_172 : decode cX9_findRing 172 = .ok (.lstore 6, 2) := by decide +kernel
theorem dX9_findRing_174 : decode cX9_findRing 174 = .ok (.lload 8, 2) := by decide +kernel
theorem dX9_findRing_176 : decode cX9_findRing 176 = .ok (.aload_n 0, 1) := by decide +kernel
theorem dX9_findRing_177 : decode cX9_findRing 177 = .ok (.getfield 66, 3) := by decide +kernel
theorem dX9_findRing_180 : decode cX9_findRing 180 = .ok (.iload 11, 2) := by decide +kernel
theorem dX9_findRing_182 : decode cX9_findRing 182 = .ok (.iaload, 1) := by decide +kernel
theorem dX9_findRing_183 : decode cX9_findRing 183 = .ok (.ifCond .ne 14, 3) := by decide +kernel
theorem dX9_findRing_186 : decode cX9_findRing 186 = .ok (.aload_n 0, 1) := by decide +kernel
theorem dX9_findRing_187 : decode cX9_findRing 187 = .ok (.getfield 72, 3) := by decide +kernel
theorem dX9_findRing_190 : decode cX9_findRing 190 = .ok (.iload 11, 2) := by decide +kernel
theorem dX9_findRing_192 : decode cX9_findRing 192 = .ok (.iaload, 1) := by decide +kernel
theorem dX9_findRing_193 : decode cX9_findRing 193 = .ok (.i2l, 1) := by decide +kernel
theorem dX9_findRing_194 : decode cX9_findRing 194 = .ok (.goto 19, 3) := by decide +kernel
theorem dX9_findRing_197 : decode cX9_findRing 197 = .ok (.aload_n 0, 1) := by decide +kernel
theorem dX9_findRing_198 : decode cX9_findRing 198 = .ok (.getfield 72, 3) := by decide +kernel
theorem dX9_findRing_201 : decode cX9_findRing 201 = .ok (.iload 11, 2) := by decide +kernel
theorem dX9_findRing_203 : decode cX9_findRing 203 = .ok (.iaload, 1) := by decide +kernel
theorem dX9_findRing_204 : decode cX9_findRing 204 = .ok (.aload_n 0, 1) := by decide +kernel
theorem dX9_findRing_205 : decode cX9_findRing 205 = .ok (.getfield 78, 3) := by decide +kernel
theorem dX9_findRing_208 : decode cX9_findRing 208 = .ok (.iload 11, 2) := by decide +kernel
theorem dX9_findRing_210 : decode cX9_findRing 210 = .ok (.iaload, 1) := by decide +kernel
theorem dX9_findRing_211 : decode cX9_findRing 211 = .ok (.imul, 1) := by decide +kernel
theorem dX9_findRing_212 : decode cX9_findRing 212 = .ok (.i2l, 1) := by decide +kernel
theorem dX9_findRing_213 : decode cX9_findRing 213 = .ok (.lmul, 1) := by decide +kernel
theorem dX9_findRing_214 : decode cX9_findRing 214 = .ok (.lstore 8, 2) := by decide +kernel
theorem dX9_findRing_216 : decode cX9_findRing 216 = .ok (.iinc 10 1, 3) := by decide +kernel
theorem dX9_findRing_219 : decode cX9_findRing 219 = .ok (.goto (-96), 3) := by decide +kernel
theorem dX9_findRing_222 : decode cX9_findRing 222 = .ok (.lload 6, 2) := by decide +kernel
theorem dX9_findRing_224 : decode cX9_findRing 224 = .ok (.aload_n 0, 1) := by decide +kernel
theorem dX9_findRing_225 : decode cX9_findRing 225 = .ok (.getfield 234, 3) := by decide +kernel
theorem dX9_findRing_228 : decode cX9_findRing 228 = .ok (.lmul, 1) := by decide +kernel
theorem dX9_findRing_229 : decode cX9_findRing 229 = .ok (.aload_n 0, 1) := by decide +kernel
theorem dX9_findRing_230 : decode cX9_findRing 230 = .ok (.getfield 230, 3) := by decide +kernel
theorem dX9_findRing_233 : decode cX9_findRing 233 = .ok (.lload 8, 2) := by decide +kernel
theorem dX9_findRing_235 : decode cX9_findRing 235 = .ok (.lmul, 1) := by decide +kernel
theorem dX9_findRing_236 : decode cX9_findRing 236 = .ok (.lcmp, 1) := by decide +kernel
theorem dX9_findRing_237 : decode cX9_findRing 237 = .ok (.ifCond .le 49, 3) := by decide +kernel
theorem dX9_findRing_240 : decode cX9_findRing 240 = .ok (.aload_n 0, 1) := by decide +kernel
theorem dX9_findRing_241 : decode cX9_findRing 241 = .ok (.lload 6, 2) := by decide +kernel
theorem dX9_findRing_243 : decode cX9_findRing 243 = .ok (.putfield 230, 3) := by decide +kernel
theorem dX9_findRing_246 : decode cX9_findRing 246 = .ok (.aload_n 0, 1) := by decide +kernel
theorem dX9_findRing_247 : decode cX9_findRing 247 = .ok (.lload 8, 2) := by decide +kernel
theorem dX9_findRing_249 : decode cX9_findRing 249 = .ok (.putfield 234, 3) := by decide +kernel
theorem dX9_findRing_252 : decode cX9_findRing 252 = .ok (.aload_n 0, 1) := by decide +kernel
theorem dX9_findRing_253 : decode cX9_findRing 253 = .ok (.iload_n 2, 1) := by decide +kernel
theorem dX9_findRing_254 : decode cX9_findRing 254 = .ok (.putfield 227, 3) := by decide +kernel
theorem dX9_findRing_257 : decode cX9_findRing 257 = .ok (.iconst 0, 1) := by decide +kernel
theorem dX9_findRing_258 : decode cX9_findRing 258 = .ok (.istore 10, 2) := by decide +kernel
theorem dX9_findRing_260 : decode cX9_findRing 260 = .ok (.iload 10, 2) := by decide +kernel
theorem dX9_findRing_262 : decode cX9_findRing 262 = .ok (.iload_n 2, 1) := by decide +kernel
theorem dX9_findRing_263 : decode cX9_findRing 263 = .ok (.if_icmp .ge 23, 3) := by decide +kernel
theorem dX9_findRing_266 : decode cX9_findRing 266 = .ok (.aload_n 0, 1) := by decide +kernel
theorem dX9_findRing_267 : decode cX9_findRing 267 = .ok (.getfield 111, 3) := by decide +kernel
theorem dX9_findRing_270 : decode cX9_findRing 270 = .ok (.iload 10, 2) := by decide +kernel
theorem dX9_findRing_272 : decode cX9_findRing 272 = .ok (.aload_n 0, 1) := by decide +kernel
theorem dX9_findRing_273 : decode cX9_findRing 273 = .ok (.getfield 108, 3) := by decide +kernel
theorem dX9_findRing_276 : decode cX9_findRing 276 = .ok (.iload 10, 2) := by decide +kernel
theorem dX9_findRing_278 : decode cX9_findRing 278 = .ok (.iaload, 1) := by decide +kernel
theorem dX9_findRing_279 : decode cX9_findRing 279 = .ok (.iastore, 1) := by decide +kernel
theorem dX9_findRing_280 : decode cX9_findRing 280 = .ok (.iinc 10 1, 3) := by decide +kernel
theorem dX9_findRing_283 : decode cX9_findRing 283 = .ok (.goto (-23), 3) := by decide +kernel
theorem dX9_findRing_286 : decode cX9_findRing 286 = .ok (.iinc 4 1, 3) := by decide +kernel
theorem dX9_findRing_289 : decode cX9_findRing 289 = .ok (.goto (-232), 3) := by decide +kernel
theorem dX9_findRing_292 : decode cX9_findRing 292 = .ok (.iinc 2 1, 3) := by decide +kernel
theorem dX9_findRing_295 : decode cX9_findRing 295 = .ok (.goto (-278), 3) := by decide +kernel
theorem dX9_findRing_298 : decode cX9_findRing 298 = .ok (.aload_n 0, 1) := by decide +kernel
theorem dX9_findRing_299 : decode cX9_findRing 299 = .ok (.getfield 227, 3) := by decide +kernel
theorem dX9_findRing_302 : decode cX9_findRing 302 = .ok (.ifCond .le 7, 3) := by decide +kernel
theorem dX9_findRing_305 : decode cX9_findRing 305 = .ok (.iconst 1, 1) := by decide +kernel
theorem dX9_findRing_306 : decode cX9_findRing 306 = .ok (.goto 4, 3) := by decide +kernel
theorem dX9_findRing_309 : decode cX9_findRing 309 = .ok (.iconst 0, 1) := by decide +kernel
theorem dX9_findRing_310 : decode cX9_findRing 310 = .ok (.ireturn, 1) := by decide +kernel
theorem dX9_ring_0 : decode cX9_ring 0 = .ok (.aload_n 0, 1) := by decide +kernel
theorem dX9_ring_1 : decode cX9_ring 1 = .ok (.iconst 0, 1) := by decide +kernel
theorem dX9_ring_2 : decode cX9_ring 2 = .ok (.putfield 117, 3) := by decide +kernel
theorem dX9_ring_5 : decode cX9_ring 5 = .ok (.aload_n 0, 1) := by decide +kernel
theorem dX9_ring_6 : decode cX9_ring 6 = .ok (.iload_n 1, 1) := by decide +kernel
theorem dX9_ring_7 : decode cX9_ring 7 = .ok (.invokevirtual 180, 3) := by decide +kernel
theorem dX9_ring_10 : decode cX9_ring 10 = .ok (.ifCond .eq 7, 3) := by decide +kernel
theorem dX9_ring_13 : decode cX9_ring 13 = .ok (.ldc2_w 240, 3) := by decide +kernel
theorem dX9_ring_16 : decode cX9_ring 16 = .ok (.lreturn, 1) := by decide +kernel
theorem dX9_ring_17 : decode cX9_ring 17 = .ok (.aload_n 0, 1) := by decide +kernel
theorem dX9_ring_18 : decode cX9_ring 18 = .ok (.aload_n 0, 1) := by decide +kernel
theorem dX9_ring_19 : decode cX9_ring 19 = .ok (.getfield 13, 3) := by decide +kernel
theorem dX9_ring_22 : decode cX9_ring 22 = .ok (.iload_n 1, 1) := by decide +kernel
theorem dX9_ring_23 : decode cX9_ring 23 = .ok (.iaload, 1) := by decide +kernel
theorem dX9_ring_24 : decode cX9_ring 24 = .ok (.invokevirtual 242, 3) := by decide +kernel
theorem dX9_ring_27 : decode cX9_ring 27 = .ok (.ifCond .ne 7, 3) := by decide +kernel
theorem dX9_ring_30 : decode cX9_ring 30 = .ok (.ldc2_w 245, 3) := by decide +kernel
theorem dX9_ring_33 : decode cX9_ring 33 = .ok (.lreturn, 1) := by decide +kernel
theorem dX9_ring_34 : decode cX9_ring 34 = .ok (.aload_n 0, 1) := by decide +kernel
theorem dX9_ring_35 : decode cX9_ring 35 = .ok (.getfield 230, 3) := by decide +kernel
theorem dX9_ring_38 : decode cX9_ring 38 = .ok (.aload_n 0, 1) := by decide +kernel
theorem dX9_ring_39 : decode cX9_ring 39 = .ok (.getfield 234, 3) := by decide +kernel
theorem dX9_ring_42 : decode cX9_ring 42 = .ok (.invokestatic 195, 3) := by decide +kernel
theorem dX9_ring_45 : decode cX9_ring 45 = .ok (.lstore_n 3, 1) := by decide +kernel
theorem dX9_ring_46 : decode cX9_ring 46 = .ok (.iload_n 2, 1) := by decide +kernel
theorem dX9_ring_47 : decode cX9_ring 47 = .ok (.ifCond .eq 12, 3) := by decide +kernel
theorem dX9_ring_50 : decode cX9_ring 50 = .ok (.aload_n 0, 1) := by decide +kernel
theorem dX9_ring_51 : decode cX9_ring 51 = .ok (.getfield 230, 3) := by decide +kernel
theorem dX9_ring_54 : decode cX9_ring 54 = .ok (.lload_n 3, 1) := by decide +kernel
theorem dX9_ring_55 : decode cX9_ring 55 = .ok (.ldiv, 1) := by decide +kernel
theorem dX9_ring_56 : decode cX9_ring 56 = .ok (.goto 9, 3) := by decide +kernel
theorem dX9_ring_59 : decode cX9_ring 59 = .ok (.aload_n 0, 1) := by decide +kernel
theorem dX9_ring_60 : decode cX9_ring 60 = .ok (.getfield 234, 3) := by decide +kernel
theorem dX9_ring_63 : decode cX9_ring 63 = .ok (.lload_n 3, 1) := by decide +kernel
theorem dX9_ring_64 : decode cX9_ring 64 = .ok (.ldiv, 1) := by decide +kernel
theorem dX9_ring_65 : decode cX9_ring 65 = .ok (.lreturn, 1) := by decide +kernel
theorem dX9_ringAt_0 : decode cX9_ringAt 0 = .ok (.aload_n 0, 1) := by decide +kernel
theorem dX9_ringAt_1 : decode cX9_ringAt 1 = .ok (.iconst 0, 1) := by decide +kernel
theorem dX9_ringAt_2 : decode cX9_ringAt 2 = .ok (.putfield 117, 3) := by decide +kernel
theorem dX9_ringAt_5 : decode cX9_ringAt 5 = .ok (.aload_n 0, 1) := by decide +kernel
theorem dX9_ringAt_6 : decode cX9_ringAt 6 = .ok (.iload_n 1, 1) := by decide +kernel
theorem dX9_ringAt_7 : decode cX9_ringAt 7 = .ok (.invokevirtual 180, 3) := by decide +kernel
theorem dX9_ringAt_10 : decode cX9_ringAt 10 = .ok (.ifCond .eq 5, 3) := by decide +kernel
theorem dX9_ringAt_13 : decode cX9_ringAt 13 = .ok (.iconst (-1), 1) := by decide +kernel
theorem dX9_ringAt_14 : decode cX9_ringAt 14 = .ok (.ireturn, 1) := by decide +kernel
theorem dX9_ringAt_15 : decode cX9_ringAt 15 = .ok (.aload_n 0, 1) := by decide +kernel
theorem dX9_ringAt_16 : decode cX9_ringAt 16 = .ok (.aload_n 0, 1) := by decide +kernel
theorem dX9_ringAt_17 : decode cX9_ringAt 17 = .ok (.getfield 13, 3) := by decide +kernel
theorem dX9_ringAt_20 : decode cX9_ringAt 20 = .ok (.iload_n 1, 1) := by decide +kernel
theorem dX9_ringAt_21 : decode cX9_ringAt 21 = .ok (.iaload, 1) := by decide +kernel
theorem dX9_ringAt_22 : decode cX9_ringAt 22 = .ok (.invokevirtual 242, 3) := by decide +kernel
theorem dX9_ringAt_25 : decode cX9_ringAt 25 = .ok (.ifCond .eq 28, 3) := by decide +kernel
theorem dX9_ringAt_28 : decode cX9_ringAt 28 = .ok (.iload_n 2, 1) := by decide +kernel
theorem dX9_ringAt_29 : decode cX9_ringAt 29 = .ok (.i2l, 1) := by decide +kernel
theorem dX9_ringAt_30 : decode cX9_ringAt 30 = .ok (.lconst 0, 1) := by decide +kernel
theorem dX9_ringAt_31 : decode cX9_ringAt 31 = .ok (.aload_n 0, 1) := by decide +kernel
theorem dX9_ringAt_32 : decode cX9_ringAt 32 = .ok (.getfield 227, 3) := by decide +kernel
theorem dX9_ringAt_35 : decode cX9_ringAt 35 = .ok (.iconst 1, 1) := by decide +kernel
theorem dX9_ringAt_36 : decode cX9_ringAt 36 = .ok (.isub, 1) := by decide +kernel
theorem dX9_ringAt_37 : decode cX9_ringAt 37 = .ok (.i2l, 1) := by decide +kernel
theorem dX9_ringAt_38 : decode cX9_ringAt 38 = .ok (.invokestatic 123, 3) := by decide +kernel
theorem dX9_ringAt_41 : decode cX9_ringAt 41 = .ok (.ifCond .eq 12, 3) := by decide +kernel
theorem dX9_ringAt_44 : decode cX9_ringAt 44 = .ok (.aload_n 0, 1) := by decide +kernel
theorem dX9_ringAt_45 : decode cX9_ringAt 45 = .ok (.getfield 111, 3) := by decide +kernel
theorem dX9_ringAt_48 : decode cX9_ringAt 48 = .ok (.iload_n 2, 1) := by decide +kernel
theorem dX9_ringAt_49 : decode cX9_ringAt 49 = .ok (.iaload, 1) := by decide +kernel
theorem dX9_ringAt_50 : decode cX9_ringAt 50 = .ok (.goto 5, 3) := by decide +kernel
theorem dX9_ringAt_53 : decode cX9_ringAt 53 = .ok (.bipush (-9), 2) := by decide +kernel
theorem dX9_ringAt_55 : decode cX9_ringAt 55 = .ok (.ireturn, 1) := by decide +kernel
theorem dX9_come_0 : decode cX9_come 0 = .ok (.aload_n 0, 1) := by decide +kernel
theorem dX9_come_1 : decode cX9_come 1 = .ok (.iconst 0, 1) := by decide +kernel
theorem dX9_come_2 : decode cX9_come 2 = .ok (.putfield 117, 3) := by decide +kernel
theorem dX9_come_5 : decode cX9_come 5 = .ok (.aload_n 0, 1) := by decide +kernel
theorem dX9_come_6 : decode cX9_come 6 = .ok (.iload_n 1, 1) := by decide +kernel
theorem dX9_come_7 : decode cX9_come 7 = .ok (.invokevirtual 180, 3) := by decide +kernel
theorem dX9_come_10 : decode cX9_come 10 = .ok (.ifCond .eq 5, 3) := by decide +kernel
theorem dX9_come_13 : decode cX9_come 13 = .ok (.iconst (-1), 1) := by decide +kernel
theorem dX9_come_14 : decode cX9_come 14 = .ok (.ireturn, 1) := by decide +kernel
theorem dX9_come_15 : decode cX9_come 15 = .ok (.iload_n 2, 1) := by decide +kernel
theorem dX9_come_16 : decode cX9_come 16 = .ok (.i2l, 1) := by decide +kernel
theorem dX9_come_17 : decode cX9_come 17 = .ok (.lconst 0, 1) := by decide +kernel
theorem dX9_come_18 : decode cX9_come 18 = .ok (.ldc2_w 138, 3) := by decide +kernel
theorem dX9_come_21 : decode cX9_come 21 = .ok (.invokestatic 123, 3) := by decide +kernel
theorem dX9_come_24 : decode cX9_come 24 = .ok (.ifCond .ne 6, 3) := by decide +kernel
theorem dX9_come_27 : decode cX9_come 27 = .ok (.bipush (-2), 2) := by decide +kernel
theorem dX9_come_29 : decode cX9_come 29 = .ok (.ireturn, 1) := by decide +kernel
theorem dX9_come_30 : decode cX9_come 30 = .ok (.aload_n 0, 1) := by decide +kernel
theorem dX9_come_31 : decode cX9_come 31 = .ok (.getfield 29, 3) := by decide +kernel
theorem dX9_come_34 : decode cX9_come 34 = .ok (.iload_n 1, 1) := by decide +kernel
theorem dX9_come_35 : decode cX9_come 35 = .ok (.iaload, 1) := by decide +kernel
theorem dX9_come_36 : decode cX9_come 36 = .ok (.istore_n 3, 1) := by decide +kernel
theorem dX9_come_37 : decode cX9_come 37 = .ok (.aload_n 0, 1) := by decide +kernel
theorem dX9_come_38 : decode cX9_come 38 = .ok (.getfield 29, 3) := by decide +kernel
theorem dX9_come_41 : decode cX9_come 41 = .ok (.iload_n 1, 1) := by decide +kernel
theorem dX9_come_42 : decode cX9_come 42 = .ok (.iload_n 2, 1) := by decide +kernel
theorem dX9_come_43 : decode cX9_come 43 = .ok (.iastore, 1) := by decide +kernel
theorem dX9_come_44 : decode cX9_come 44 = .ok (.iload_n 3, 1) := by decide +kernel
theorem dX9_come_45 : decode cX9_come 45 = .ok (.ireturn, 1) := by decide +kernel
theorem dX9_earnedBy_0 : decode cX9_earnedBy 0 = .ok (.iconst 0, 1) := by decide +kernel
theorem dX9_earnedBy_1 : decode cX9_earnedBy 1 = .ok (.istore 4, 2) := by decide +kernel
theorem dX9_earnedBy_3 : decode cX9_earnedBy 3 = .ok (.iconst 0, 1) := by decide +kernel
theorem dX9_earnedBy_4 : decode cX9_earnedBy 4 = .ok (.istore 5, 2) := by decide +kernel
theorem dX9_earnedBy_6 : decode cX9_earnedBy 6 = .ok (.iload 5, 2) := by decide +kernel
theorem dX9_earnedBy_8 : decode cX9_earnedBy 8 = .ok (.aload_n 0, 1) := by decide +kernel
theorem dX9_earnedBy_9 : decode cX9_earnedBy 9 = .ok (.getfield 120, 3) := by decide +kernel
theorem dX9_earnedBy_12 : decode cX9_earnedBy 12 = .ok (.if_icmp .ge 50, 3) := by decide +kernel
theorem dX9_earnedBy_15 : decode cX9_earnedBy 15 = .ok (.iload 4, 2) := by decide +kernel
theorem dX9_earnedBy_17 : decode cX9_earnedBy 17 = .ok (.iload_n 1, 1) := by decide +kernel
theorem dX9_earnedBy_18 : decode cX9_earnedBy 18 = .ok (.iload_n 2, 1) := by decide +kernel
theorem dX9_earnedBy_19 : decode cX9_earnedBy 19 = .ok (.aload_n 0, 1) := by decide +kernel
theorem dX9_earnedBy_20 : decode cX9_earnedBy 20 = .ok (.getfield 13, 3) := by decide +kernel
theorem dX9_earnedBy_23 : decode cX9_earnedBy 23 = .ok (.iload 5, 2) := by decide +kernel
theorem dX9_earnedBy_25 : decode cX9_earnedBy 25 = .ok (.iaload, 1) := by decide +kernel
theorem dX9_earnedBy_26 : decode cX9_earnedBy 26 = .ok (.imul, 1) := by decide +kernel
theorem dX9_earnedBy_27 : decode cX9_earnedBy 27 = .ok (.if_icmp .gt 25, 3) := by decide +kernel
theorem dX9_earnedBy_30 : decode cX9_earnedBy 30 = .ok (.aload_n 0, 1) := by decide +kernel
theorem dX9_earnedBy_31 : decode cX9_earnedBy 31 = .ok (.getfield 29, 3) := by decide +kernel
theorem dX9_earnedBy_34 : decode cX9_earnedBy 34 = .ok (.iload 5, 2) := by decide +kernel
theorem dX9_earnedBy_36 : decode cX9_earnedBy 36 = .ok (.iaload, 1) := by decide +kernel
theorem dX9_earnedBy_37 : decode cX9_earnedBy 37 = .ok (.iload_n 1, 1) := by decide +kernel
theorem dX9_earnedBy_38 : decode cX9_earnedBy 38 = .ok (.iload_n 3, 1) := by decide +kernel
theorem dX9_earnedBy_39 : decode cX9_earnedBy 39 = .ok (.aload_n 0, 1) := by decide +kernel
theorem dX9_earnedBy_40 : decode cX9_earnedBy 40 = .ok (.getfield 13, 3) := by decide +kernel
theorem dX9_earnedBy_43 : decode cX9_earnedBy 43 = .ok (.iload 5, 2) := by decide +kernel
theorem dX9_earnedBy_45 : decode cX9_earnedBy 45 = .ok (.iaload, 1) := by decide +kernel
theorem dX9_earnedBy_46 : decode cX9_earnedBy 46 = .ok (.imul, 1) := by decide +kernel
theorem dX9_earnedBy_47 : decode cX9_earnedBy 47 = .ok (.isub, 1) := by decide +kernel
theorem dX9_earnedBy_48 : decode cX9_earnedBy 48 = .ok (.imul, 1) := by decide +kernel
theorem dX9_earnedBy_49 : decode cX9_earnedBy 49 = .ok (.goto 4, 3) := by decide +kernel
theorem dX9_earnedBy_52 : decode cX9_earnedBy 52 = .ok (.iconst 0, 1) := by decide +kernel
theorem dX9_earnedBy_53 : decode cX9_earnedBy 53 = .ok (.iadd, 1) := by decide +kernel
theorem dX9_earnedBy_54 : decode cX9_earnedBy 54 = .ok (.istore 4, 2) := by decide +kernel
theorem dX9_earnedBy_56 : decode cX9_earnedBy 56 = .ok (.iinc 5 1, 3) := by decide +kernel
theorem dX9_earnedBy_59 : decode cX9_earnedBy 59 = .ok (.goto (-53), 3) := by decide +kernel
theorem dX9_earnedBy_62 : decode cX9_earnedBy 62 = .ok (.iload 4, 2) := by decide +kernel
theorem dX9_earnedBy_64 : decode cX9_earnedBy 64 = .ok (.ireturn, 1) := by decide +kernel
theorem dX9_earned_0 : decode cX9_earned 0 = .ok (.aload_n 0, 1) := by decide +kernel
theorem dX9_earned_1 : decode cX9_earned 1 = .ok (.iconst 0, 1) := by decide +kernel
theorem dX9_earned_2 : decode cX9_earned 2 = .ok (.putfield 117, 3) := by decide +kernel
theorem dX9_earned_5 : decode cX9_earned 5 = .ok (.iload_n 1, 1) := by decide +kernel
theorem dX9_earned_6 : decode cX9_earned 6 = .ok (.i2l, 1) := by decide +kernel
theorem dX9_earned_7 : decode cX9_earned 7 = .ok (.lconst 1, 1) := by decide +kernel
theorem dX9_earned_8 : decode cX9_earned 8 = .ok (.ldc2_w 216, 3) := by decide +kernel
theorem dX9_earned_11 : decode cX9_earned 11 = .ok (.invokestatic 123, 3) := by decide +kernel
theorem dX9_earned_14 : decode cX9_earned 14 = .ok (.ifCond .eq 27, 3) := by decide +kernel
theorem dX9_earned_17 : decode cX9_earned 17 = .ok (.iload_n 2, 1) := by decide +kernel
theorem dX9_earned_18 : decode cX9_earned 18 = .ok (.i2l, 1) := by decide +kernel
theorem dX9_earned_19 : decode cX9_earned 19 = .ok (.lconst 1, 1) := by decide +kernel
theorem dX9_earned_20 : decode cX9_earned 20 = .ok (.ldc2_w 191, 3) := by decide +kernel
theorem dX9_earned_23 : decode cX9_earned 23 = .ok (.invokestatic 123, 3) := by decide +kernel
theorem dX9_earned_26 : decode cX9_earned 26 = .ok (.ifCond .eq 15, 3) := by decide +kernel
theorem dX9_earned_29 : decode cX9_earned 29 = .ok (.iload_n 3, 1) := by decide +kernel
theorem dX9_earned_30 : decode cX9_earned 30 = .ok (.i2l, 1) := by decide +kernel
theorem dX9_earned_31 : decode cX9_earned 31 = .ok (.lconst 0, 1) := by decide +kernel
theorem dX9_earned_32 : decode cX9_earned 32 = .ok (.ldc2_w 138, 3) := by decide +kernel
theorem dX9_earned_35 : decode cX9_earned 35 = .ok (.invokestatic 123, 3) := by decide +kernel
theorem dX9_earned_38 : decode cX9_earned 38 = .ok (.ifCond .ne 6, 3) := by decide +kernel
theorem dX9_earned_41 : decode cX9_earned 41 = .ok (.bipush (-2), 2) := by decide +kernel
end
section
theorem dX9_earned_43 : decode cX9_earned 43 = .ok (.ireturn, 1) := by decide +kernel
theorem dX9_earned_44 : decode cX9_earned 44 = .ok (.ldc 247, 2) := by decide +kernel
theorem dX9_earned_46 : decode cX9_earned 46 = .ok (.aload_n 0, 1) := by decide +kernel
theorem dX9_earned_47 : decode cX9_earned 47 = .ok (.iload_n 1, 1) := by decide +kernel
theorem dX9_earned_48 : decode cX9_earned 48 = .ok (.iload_n 2, 1) := by decide +kernel
theorem dX9_earned_49 : decode cX9_earned 49 = .ok (.iload_n 3, 1) := by decide +kernel
theorem dX9_earned_50 : decode cX9_earned 50 = .ok (.invokevirtual 248, 3) := by decide +kernel
theorem dX9_earned_53 : decode cX9_earned 53 = .ok (.iadd, 1) := by decide +kernel
theorem dX9_earned_54 : decode cX9_earned 54 = .ok (.ireturn, 1) := by decide +kernel
theorem dX9_ask_0 : decode cX9_ask 0 = .ok (.aload_n 0, 1) := by decide +kernel
theorem dX9_ask_1 : decode cX9_ask 1 = .ok (.iconst 0, 1) := by decide +kernel
theorem dX9_ask_2 : decode cX9_ask 2 = .ok (.putfield 117, 3) := by decide +kernel
theorem dX9_ask_5 : decode cX9_ask 5 = .ok (.iload_n 1, 1) := by decide +kernel
theorem dX9_ask_6 : decode cX9_ask 6 = .ok (.i2l, 1) := by decide +kernel
theorem dX9_ask_7 : decode cX9_ask 7 = .ok (.lconst 1, 1) := by decide +kernel
theorem dX9_ask_8 : decode cX9_ask 8 = .ok (.ldc2_w 191, 3) := by decide +kernel
theorem dX9_ask_11 : decode cX9_ask 11 = .ok (.invokestatic 123, 3) := by decide +kernel
theorem dX9_ask_14 : decode cX9_ask 14 = .ok (.ifCond .eq 15, 3) := by decide +kernel
theorem dX9_ask_17 : decode cX9_ask 17 = .ok (.iload_n 2, 1) := by decide +kernel
theorem dX9_ask_18 : decode cX9_ask 18 = .ok (.i2l, 1) := by decide +kernel
theorem dX9_ask_19 : decode cX9_ask 19 = .ok (.lconst 0, 1) := by decide +kernel
theorem dX9_ask_20 : decode cX9_ask 20 = .ok (.ldc2_w 138, 3) := by decide +kernel
theorem dX9_ask_23 : decode cX9_ask 23 = .ok (.invokestatic 123, 3) := by decide +kernel
theorem dX9_ask_26 : decode cX9_ask 26 = .ok (.ifCond .ne 6, 3) := by decide +kernel
theorem dX9_ask_29 : decode cX9_ask 29 = .ok (.bipush (-2), 2) := by decide +kernel
theorem dX9_ask_31 : decode cX9_ask 31 = .ok (.ireturn, 1) := by decide +kernel
theorem dX9_ask_32 : decode cX9_ask 32 = .ok (.iconst 1, 1) := by decide +kernel
theorem dX9_ask_33 : decode cX9_ask 33 = .ok (.istore_n 3, 1) := by decide +kernel
theorem dX9_ask_34 : decode cX9_ask 34 = .ok (.iconst 2, 1) := by decide +kernel
theorem dX9_ask_35 : decode cX9_ask 35 = .ok (.istore 4, 2) := by decide +kernel
theorem dX9_ask_37 : decode cX9_ask 37 = .ok (.iload 4, 2) := by decide +kernel
theorem dX9_ask_39 : decode cX9_ask 39 = .ok (.sipush 1000, 3) := by decide +kernel
theorem dX9_ask_42 : decode cX9_ask 42 = .ok (.if_icmp .ge 34, 3) := by decide +kernel
theorem dX9_ask_45 : decode cX9_ask 45 = .ok (.aload_n 0, 1) := by decide +kernel
theorem dX9_ask_46 : decode cX9_ask 46 = .ok (.iload 4, 2) := by decide +kernel
theorem dX9_ask_48 : decode cX9_ask 48 = .ok (.iload_n 1, 1) := by decide +kernel
theorem dX9_ask_49 : decode cX9_ask 49 = .ok (.iload_n 2, 1) := by decide +kernel
theorem dX9_ask_50 : decode cX9_ask 50 = .ok (.invokevirtual 248, 3) := by decide +kernel
theorem dX9_ask_53 : decode cX9_ask 53 = .ok (.aload_n 0, 1) := by decide +kernel
theorem dX9_ask_54 : decode cX9_ask 54 = .ok (.iload_n 3, 1) := by decide +kernel
theorem dX9_ask_55 : decode cX9_ask 55 = .ok (.iload_n 1, 1) := by decide +kernel
theorem dX9_ask_56 : decode cX9_ask 56 = .ok (.iload_n 2, 1) := by decide +kernel
theorem dX9_ask_57 : decode cX9_ask 57 = .ok (.invokevirtual 248, 3) := by decide +kernel
theorem dX9_ask_60 : decode cX9_ask 60 = .ok (.if_icmp .le 8, 3) := by decide +kernel
theorem dX9_ask_63 : decode cX9_ask 63 = .ok (.iload 4, 2) := by decide +kernel
theorem dX9_ask_65 : decode cX9_ask 65 = .ok (.goto 4, 3) := by decide +kernel
theorem dX9_ask_68 : decode cX9_ask 68 = .ok (.iload_n 3, 1) := by decide +kernel
theorem dX9_ask_69 : decode cX9_ask 69 = .ok (.istore_n 3, 1) := by decide +kernel
theorem dX9_ask_70 : decode cX9_ask 70 = .ok (.iinc 4 1, 3) := by decide +kernel
theorem dX9_ask_73 : decode cX9_ask 73 = .ok (.goto (-36), 3) := by decide +kernel
theorem dX9_ask_76 : decode cX9_ask 76 = .ok (.iload_n 3, 1) := by decide +kernel
theorem dX9_ask_77 : decode cX9_ask 77 = .ok (.ireturn, 1) := by decide +kernel
theorem dX9_keeper_0 : decode cX9_keeper 0 = .ok (.aload_n 0, 1) := by decide +kernel
theorem dX9_keeper_1 : decode cX9_keeper 1 = .ok (.iconst 0, 1) := by decide +kernel
theorem dX9_keeper_2 : decode cX9_keeper 2 = .ok (.putfield 117, 3) := by decide +kernel
theorem dX9_keeper_5 : decode cX9_keeper 5 = .ok (.aload_n 0, 1) := by decide +kernel
theorem dX9_keeper_6 : decode cX9_keeper 6 = .ok (.iload_n 1, 1) := by decide +kernel
theorem dX9_keeper_7 : decode cX9_keeper 7 = .ok (.invokevirtual 180, 3) := by decide +kernel
theorem dX9_keeper_10 : decode cX9_keeper 10 = .ok (.ifCond .eq 5, 3) := by decide +kernel
theorem dX9_keeper_13 : decode cX9_keeper 13 = .ok (.iconst (-1), 1) := by decide +kernel
theorem dX9_keeper_14 : decode cX9_keeper 14 = .ok (.ireturn, 1) := by decide +kernel
theorem dX9_keeper_15 : decode cX9_keeper 15 = .ok (.aload_n 0, 1) := by decide +kernel
theorem dX9_keeper_16 : decode cX9_keeper 16 = .ok (.getfield 32, 3) := by decide +kernel
theorem dX9_keeper_19 : decode cX9_keeper 19 = .ok (.iload_n 1, 1) := by decide +kernel
theorem dX9_keeper_20 : decode cX9_keeper 20 = .ok (.baload, 1) := by decide +kernel
theorem dX9_keeper_21 : decode cX9_keeper 21 = .ok (.istore_n 3, 1) := by decide +kernel
theorem dX9_keeper_22 : decode cX9_keeper 22 = .ok (.aload_n 0, 1) := by decide +kernel
theorem dX9_keeper_23 : decode cX9_keeper 23 = .ok (.getfield 32, 3) := by decide +kernel
theorem dX9_keeper_26 : decode cX9_keeper 26 = .ok (.iload_n 1, 1) := by decide +kernel
theorem dX9_keeper_27 : decode cX9_keeper 27 = .ok (.iload_n 2, 1) := by decide +kernel
theorem dX9_keeper_28 : decode cX9_keeper 28 = .ok (.bastore, 1) := by decide +kernel
theorem dX9_keeper_29 : decode cX9_keeper 29 = .ok (.iload_n 3, 1) := by decide +kernel
theorem dX9_keeper_30 : decode cX9_keeper 30 = .ok (.iload_n 2, 1) := by decide +kernel
theorem dX9_keeper_31 : decode cX9_keeper 31 = .ok (.if_icmp .ne 7, 3) := by decide +kernel
theorem dX9_keeper_34 : decode cX9_keeper 34 = .ok (.iconst 0, 1) := by decide +kernel
theorem dX9_keeper_35 : decode cX9_keeper 35 = .ok (.goto 4, 3) := by decide +kernel
theorem dX9_keeper_38 : decode cX9_keeper 38 = .ok (.iconst 1, 1) := by decide +kernel
theorem dX9_keeper_39 : decode cX9_keeper 39 = .ok (.ireturn, 1) := by decide +kernel
theorem dX9_losersBy_0 : decode cX9_losersBy 0 = .ok (.iconst 0, 1) := by decide +kernel
theorem dX9_losersBy_1 : decode cX9_losersBy 1 = .ok (.istore_n 2, 1) := by decide +kernel
theorem dX9_losersBy_2 : decode cX9_losersBy 2 = .ok (.iconst 0, 1) := by decide +kernel
theorem dX9_losersBy_3 : decode cX9_losersBy 3 = .ok (.istore_n 3, 1) := by decide +kernel
theorem dX9_losersBy_4 : decode cX9_losersBy 4 = .ok (.iload_n 3, 1) := by decide +kernel
theorem dX9_losersBy_5 : decode cX9_losersBy 5 = .ok (.aload_n 0, 1) := by decide +kernel
theorem dX9_losersBy_6 : decode cX9_losersBy 6 = .ok (.getfield 120, 3) := by decide +kernel
theorem dX9_losersBy_9 : decode cX9_losersBy 9 = .ok (.if_icmp .ge 54, 3) := by decide +kernel
theorem dX9_losersBy_12 : decode cX9_losersBy 12 = .ok (.iload_n 2, 1) := by decide +kernel
theorem dX9_losersBy_13 : decode cX9_losersBy 13 = .ok (.aload_n 0, 1) := by decide +kernel
theorem dX9_losersBy_14 : decode cX9_losersBy 14 = .ok (.getfield 32, 3) := by decide +kernel
theorem dX9_losersBy_17 : decode cX9_losersBy 17 = .ok (.iload_n 3, 1) := by decide +kernel
theorem dX9_losersBy_18 : decode cX9_losersBy 18 = .ok (.baload, 1) := by decide +kernel
theorem dX9_losersBy_19 : decode cX9_losersBy 19 = .ok (.ifCond .eq 21, 3) := by decide +kernel
theorem dX9_losersBy_22 : decode cX9_losersBy 22 = .ok (.iload_n 1, 1) := by decide +kernel
theorem dX9_losersBy_23 : decode cX9_losersBy 23 = .ok (.aload_n 0, 1) := by decide +kernel
theorem dX9_losersBy_24 : decode cX9_losersBy 24 = .ok (.getfield 13, 3) := by decide +kernel
theorem dX9_losersBy_27 : decode cX9_losersBy 27 = .ok (.iload_n 3, 1) := by decide +kernel
theorem dX9_losersBy_28 : decode cX9_losersBy 28 = .ok (.iaload, 1) := by decide +kernel
theorem dX9_losersBy_29 : decode cX9_losersBy 29 = .ok (.if_icmp .le 7, 3) := by decide +kernel
theorem dX9_losersBy_32 : decode cX9_losersBy 32 = .ok (.iconst 1, 1) := by decide +kernel
theorem dX9_losersBy_33 : decode cX9_losersBy 33 = .ok (.goto 22, 3) := by decide +kernel
theorem dX9_losersBy_36 : decode cX9_losersBy 36 = .ok (.iconst 0, 1) := by decide +kernel
theorem dX9_losersBy_37 : decode cX9_losersBy 37 = .ok (.goto 18, 3) := by decide +kernel
theorem dX9_losersBy_40 : decode cX9_losersBy 40 = .ok (.iload_n 1, 1) := by decide +kernel
theorem dX9_losersBy_41 : decode cX9_losersBy 41 = .ok (.aload_n 0, 1) := by decide +kernel
theorem dX9_losersBy_42 : decode cX9_losersBy 42 = .ok (.getfield 13, 3) := by decide +kernel
theorem dX9_losersBy_45 : decode cX9_losersBy 45 = .ok (.iload_n 3, 1) := by decide +kernel
theorem dX9_losersBy_46 : decode cX9_losersBy 46 = .ok (.iaload, 1) := by decide +kernel
theorem dX9_losersBy_47 : decode cX9_losersBy 47 = .ok (.if_icmp .ge 7, 3) := by decide +kernel
theorem dX9_losersBy_50 : decode cX9_losersBy 50 = .ok (.iconst 1, 1) := by decide +kernel
theorem dX9_losersBy_51 : decode cX9_losersBy 51 = .ok (.goto 4, 3) := by decide +kernel
theorem dX9_losersBy_54 : decode cX9_losersBy 54 = .ok (.iconst 0, 1) := by decide +kernel
theorem dX9_losersBy_55 : decode cX9_losersBy 55 = .ok (.iadd, 1) := by decide +kernel
theorem dX9_losersBy_56 : decode cX9_losersBy 56 = .ok (.istore_n 2, 1) := by decide +kernel
theorem dX9_losersBy_57 : decode cX9_losersBy 57 = .ok (.iinc 3 1, 3) := by decide +kernel
theorem dX9_losersBy_60 : decode cX9_losersBy 60 = .ok (.goto (-56), 3) := by decide +kernel
theorem dX9_losersBy_63 : decode cX9_losersBy 63 = .ok (.iload_n 2, 1) := by decide +kernel
theorem dX9_losersBy_64 : decode cX9_losersBy 64 = .ok (.ireturn, 1) := by decide +kernel
theorem dX9_losers_0 : decode cX9_losers 0 = .ok (.aload_n 0, 1) := by decide +kernel
theorem dX9_losers_1 : decode cX9_losers 1 = .ok (.iconst 0, 1) := by decide +kernel
theorem dX9_losers_2 : decode cX9_losers 2 = .ok (.putfield 117, 3) := by decide +kernel
theorem dX9_losers_5 : decode cX9_losers 5 = .ok (.iload_n 1, 1) := by decide +kernel
theorem dX9_losers_6 : decode cX9_losers 6 = .ok (.i2l, 1) := by decide +kernel
theorem dX9_losers_7 : decode cX9_losers 7 = .ok (.lconst 1, 1) := by decide +kernel
theorem dX9_losers_8 : decode cX9_losers 8 = .ok (.ldc2_w 191, 3) := by decide +kernel
theorem dX9_losers_11 : decode cX9_losers 11 = .ok (.invokestatic 123, 3) := by decide +kernel
theorem dX9_losers_14 : decode cX9_losers 14 = .ok (.ifCond .eq 11, 3) := by decide +kernel
theorem dX9_losers_17 : decode cX9_losers 17 = .ok (.aload_n 0, 1) := by decide +kernel
theorem dX9_losers_18 : decode cX9_losers 18 = .ok (.iload_n 1, 1) := by decide +kernel
theorem dX9_losers_19 : decode cX9_losers 19 = .ok (.invokevirtual 251, 3) := by decide +kernel
theorem dX9_losers_22 : decode cX9_losers 22 = .ok (.goto 5, 3) := by decide +kernel
theorem dX9_losers_25 : decode cX9_losers 25 = .ok (.bipush (-2), 2) := by decide +kernel
theorem dX9_losers_27 : decode cX9_losers 27 = .ok (.ireturn, 1) := by decide +kernel
theorem dX9_fairest_0 : decode cX9_fairest 0 = .ok (.aload_n 0, 1) := by decide +kernel
theorem dX9_fairest_1 : decode cX9_fairest 1 = .ok (.iconst 0, 1) := by decide +kernel
theorem dX9_fairest_2 : decode cX9_fairest 2 = .ok (.putfield 117, 3) := by decide +kernel
theorem dX9_fairest_5 : decode cX9_fairest 5 = .ok (.iconst 1, 1) := by decide +kernel
theorem dX9_fairest_6 : decode cX9_fairest 6 = .ok (.istore_n 1, 1) := by decide +kernel
theorem dX9_fairest_7 : decode cX9_fairest 7 = .ok (.iconst 2, 1) := by decide +kernel
theorem dX9_fairest_8 : decode cX9_fairest 8 = .ok (.istore_n 2, 1) := by decide +kernel
theorem dX9_fairest_9 : decode cX9_fairest 9 = .ok (.iload_n 2, 1) := by decide +kernel
theorem dX9_fairest_10 : decode cX9_fairest 10 = .ok (.bipush 100, 2) := by decide +kernel
theorem dX9_fairest_12 : decode cX9_fairest 12 = .ok (.if_icmp .ge 28, 3) := by decide +kernel
theorem dX9_fairest_15 : decode cX9_fairest 15 = .ok (.aload_n 0, 1) := by decide +kernel
theorem dX9_fairest_16 : decode cX9_fairest 16 = .ok (.iload_n 2, 1) := by decide +kernel
theorem dX9_fairest_17 : decode cX9_fairest 17 = .ok (.invokevirtual 251, 3) := by decide +kernel
theorem dX9_fairest_20 : decode cX9_fairest 20 = .ok (.aload_n 0, 1) := by decide +kernel
theorem dX9_fairest_21 : decode cX9_fairest 21 = .ok (.iload_n 1, 1) := by decide +kernel
theorem dX9_fairest_22 : decode cX9_fairest 22 = .ok (.invokevirtual 251, 3) := by decide +kernel
theorem dX9_fairest_25 : decode cX9_fairest 25 = .ok (.if_icmp .ge 7, 3) := by decide +kernel
theorem dX9_fairest_28 : decode cX9_fairest 28 = .ok (.iload_n 2, 1) := by decide +kernel
theorem dX9_fairest_29 : decode cX9_fairest 29 = .ok (.goto 4, 3) := by decide +kernel
theorem dX9_fairest_32 : decode cX9_fairest 32 = .ok (.iload_n 1, 1) := by decide +kernel
theorem dX9_fairest_33 : decode cX9_fairest 33 = .ok (.istore_n 1, 1) := by decide +kernel
theorem dX9_fairest_34 : decode cX9_fairest 34 = .ok (.iinc 2 1, 3) := by decide +kernel
theorem dX9_fairest_37 : decode cX9_fairest 37 = .ok (.goto (-28), 3) := by decide +kernel
theorem dX9_fairest_40 : decode cX9_fairest 40 = .ok (.iload_n 1, 1) := by decide +kernel
theorem dX9_fairest_41 : decode cX9_fairest 41 = .ok (.ireturn, 1) := by decide +kernel
theorem dX9_cut_0 : decode cX9_cut 0 = .ok (.aload_n 0, 1) := by decide +kernel
theorem dX9_cut_1 : decode cX9_cut 1 = .ok (.iconst 0, 1) := by decide +kernel
theorem dX9_cut_2 : decode cX9_cut 2 = .ok (.putfield 117, 3) := by decide +kernel
theorem dX9_cut_5 : decode cX9_cut 5 = .ok (.iload_n 1, 1) := by decide +kernel
theorem dX9_cut_6 : decode cX9_cut 6 = .ok (.i2l, 1) := by decide +kernel
theorem dX9_cut_7 : decode cX9_cut 7 = .ok (.lconst 1, 1) := by decide +kernel
theorem dX9_cut_8 : decode cX9_cut 8 = .ok (.ldc2_w 216, 3) := by decide +kernel
theorem dX9_cut_11 : decode cX9_cut 11 = .ok (.invokestatic 123, 3) := by decide +kernel
theorem dX9_cut_14 : decode cX9_cut 14 = .ok (.ifCond .eq 21, 3) := by decide +kernel
theorem dX9_cut_17 : decode cX9_cut 17 = .ok (.iload_n 2, 1) := by decide +kernel
theorem dX9_cut_18 : decode cX9_cut 18 = .ok (.i2l, 1) := by decide +kernel
theorem dX9_cut_19 : decode cX9_cut 19 = .ok (.lconst 0, 1) := by decide +kernel
theorem dX9_cut_20 : decode cX9_cut 20 = .ok (.iconst 1, 1) := by decide +kernel
theorem dX9_cut_21 : decode cX9_cut 21 = .ok (.aload_n 0, 1) := by decide +kernel
theorem dX9_cut_22 : decode cX9_cut 22 = .ok (.getfield 120, 3) := by decide +kernel
theorem dX9_cut_25 : decode cX9_cut 25 = .ok (.ishl, 1) := by decide +kernel
theorem dX9_cut_26 : decode cX9_cut 26 = .ok (.iconst 1, 1) := by decide +kernel
theorem dX9_cut_27 : decode cX9_cut 27 = .ok (.isub, 1) := by decide +kernel
theorem dX9_cut_28 : decode cX9_cut 28 = .ok (.i2l, 1) := by decide +kernel
theorem dX9_cut_29 : decode cX9_cut 29 = .ok (.invokestatic 123, 3) := by decide +kernel
theorem dX9_cut_32 : decode cX9_cut 32 = .ok (.ifCond .ne 6, 3) := by decide +kernel
theorem dX9_cut_35 : decode cX9_cut 35 = .ok (.bipush (-2), 2) := by decide +kernel
theorem dX9_cut_37 : decode cX9_cut 37 = .ok (.ireturn, 1) := by decide +kernel
theorem dX9_cut_38 : decode cX9_cut 38 = .ok (.iconst 0, 1) := by decide +kernel
theorem dX9_cut_39 : decode cX9_cut 39 = .ok (.istore 4, 2) := by decide +kernel
theorem dX9_cut_41 : decode cX9_cut 41 = .ok (.iconst 0, 1) := by decide +kernel
theorem dX9_cut_42 : decode cX9_cut 42 = .ok (.istore 5, 2) := by decide +kernel
theorem dX9_cut_44 : decode cX9_cut 44 = .ok (.iload 5, 2) := by decide +kernel
theorem dX9_cut_46 : decode cX9_cut 46 = .ok (.iload_n 1, 1) := by decide +kernel
theorem dX9_cut_47 : decode cX9_cut 47 = .ok (.if_icmp .gt 160, 3) := by decide +kernel
theorem dX9_cut_50 : decode cX9_cut 50 = .ok (.aload_n 0, 1) := by decide +kernel
theorem dX9_cut_51 : decode cX9_cut 51 = .ok (.getfield 114, 3) := by decide +kernel
theorem dX9_cut_54 : decode cX9_cut 54 = .ok (.iload 5, 2) := by decide +kernel
theorem dX9_cut_56 : decode cX9_cut 56 = .ok (.iload 5, 2) := by decide +kernel
theorem dX9_cut_58 : decode cX9_cut 58 = .ok (.ifCond .ne 7, 3) := by decide +kernel
theorem dX9_cut_61 : decode cX9_cut 61 = .ok (.iconst 0, 1) := by decide +kernel
theorem dX9_cut_62 : decode cX9_cut 62 = .ok (.goto 5, 3) := by decide +kernel
theorem dX9_cut_65 : decode cX9_cut 65 = .ok (.ldc 199, 2) := by decide +kernel
theorem dX9_cut_67 : decode cX9_cut 67 = .ok (.iastore, 1) := by decide +kernel
theorem dX9_cut_68 : decode cX9_cut 68 = .ok (.iconst 0, 1) := by decide +kernel
theorem dX9_cut_69 : decode cX9_cut 69 = .ok (.istore 6, 2) := by decide +kernel
theorem dX9_cut_71 : decode cX9_cut 71 = .ok (.iload 6, 2) := by decide +kernel
theorem dX9_cut_73 : decode cX9_cut 73 = .ok (.aload_n 0, 1) := by decide +kernel
theorem dX9_cut_74 : decode cX9_cut 74 = .ok (.getfield 120, 3) := by decide +kernel
theorem dX9_cut_77 : decode cX9_cut 77 = .ok (.if_icmp .ge 103, 3) := by decide +kernel
theorem dX9_cut_80 : decode cX9_cut 80 = .ok (.iload_n 2, 1) := by decide +kernel
theorem dX9_cut_81 : decode cX9_cut 81 = .ok (.iload 6, 2) := by decide +kernel
theorem dX9_cut_83 : decode cX9_cut 83 = .ok (.invokestatic 200, 3) := by decide +kernel
theorem dX9_cut_86 : decode cX9_cut 86 = .ok (.ifCond .eq 46, 3) := by decide +kernel
theorem dX9_cut_89 : decode cX9_cut 89 = .ok (.iload 5, 2) := by decide +kernel
theorem dX9_cut_91 : decode cX9_cut 91 = .ok (.aload_n 0, 1) := by decide +kernel
theorem dX9_cut_92 : decode cX9_cut 92 = .ok (.getfield 13, 3) := by decide +kernel
theorem dX9_cut_95 : decode cX9_cut 95 = .ok (.iload 6, 2) := by decide +kernel
theorem dX9_cut_97 : decode cX9_cut 97 = .ok (.iaload, 1) := by decide +kernel
theorem dX9_cut_98 : decode cX9_cut 98 = .ok (.if_icmp .lt 34, 3) := by decide +kernel
theorem dX9_cut_101 : decode cX9_cut 101 = .ok (.aload_n 0, 1) := by decide +kernel
theorem dX9_cut_102 : decode cX9_cut 102 = .ok (.getfield 114, 3) := by decide +kernel
theorem dX9_cut_105 : decode cX9_cut 105 = .ok (.iload 5, 2) := by decide +kernel
theorem dX9_cut_107 : decode cX9_cut 107 = .ok (.aload_n 0, 1) := by decide +kernel
theorem dX9_cut_108 : decode cX9_cut 108 = .ok (.getfield 13, 3) := by decide +kernel
theorem dX9_cut_111 : decode cX9_cut 111 = .ok (.iload 6, 2) := by decide +kernel
theorem dX9_cut_113 : decode cX9_cut 113 = .ok (.iaload, 1) := by decide +kernel
theorem dX9_cut_114 : decode cX9_cut 114 = .ok (.isub, 1) := by decide +kernel
theorem dX9_cut_115 : decode cX9_cut 115 = .ok (.iaload, 1) := by decide +kernel
theorem dX9_cut_116 : decode cX9_cut 116 = .ok (.iconst 1, 1) := by decide +kernel
theorem dX9_cut_117 : decode cX9_cut 117 = .ok (.iadd, 1) := by decide +kernel
theorem dX9_cut_118 : decode cX9_cut 118 = .ok (.aload_n 0, 1) := by decide +kernel
theorem dX9_cut_119 : decode cX9_cut 119 = .ok (.getfield 114, 3) := by decide +kernel
theorem dX9_cut_122 : decode cX9_cut 122 = .ok (.iload 5, 2) := by decide +kernel
theorem dX9_cut_124 : decode cX9_cut 124 = .ok (.iaload, 1) := by decide +kernel
theorem dX9_cut_125 : decode cX9_cut 125 = .ok (.if_icmp .ge 7, 3) := by decide +kernel
theorem dX9_cut_128 : decode cX9_cut 128 = .ok (.iconst 1, 1) := by decide +kernel
theorem dX9_cut_129 : decode cX9_cut 129 = .ok (.goto 4, 3) := by decide +kernel
theorem dX9_cut_132 : decode cX9_cut 132 = .ok (.iconst 0, 1) := by decide +kernel
theorem dX9_cut_133 : decode cX9_cut 133 = .ok (.istore 7, 2) := by decide +kernel
theorem dX9_cut_135 : decode cX9_cut 135 = .ok (.aload_n 0, 1) := by decide +kernel
theorem dX9_cut_136 : decode cX9_cut 136 = .ok (.getfield 114, 3) := by decide +kernel
theorem dX9_cut_139 : decode cX9_cut 139 = .ok (.iload 5, 2) := by decide +kernel
theorem dX9_cut_141 : decode cX9_cut 141 = .ok (.iload 7, 2) := by decide +kernel
theorem dX9_cut_143 : decode cX9_cut 143 = .ok (.ifCond .eq 23, 3) := by decide +kernel
theorem dX9_cut_146 : decode cX9_cut 146 = .ok (.aload_n 0, 1) := by decide +kernel
theorem dX9_cut_147 : decode cX9_cut 147 = .ok (.getfield 114, 3) := by decide +kernel
theorem dX9_cut_150 : decode cX9_cut 150 = .ok (.iload 5, 2) := by decide +kernel
theorem dX9_cut_152 : decode cX9_cut 152 = .ok (.aload_n 0, 1) := by decide +kernel
theorem dX9_cut_153 : decode cX9_cut 153 = .ok (.getfield 13, 3) := by decide +kernel
theorem dX9_cut_156 : decode cX9_cut 156 = .ok (.iload 6, 2) := by decide +kernel
theorem dX9_cut_158 : decode cX9_cut 158 = .ok (.iaload, 1) := by decide +kernel
theorem dX9_cut_159 : decode cX9_cut 159 = .ok (.isub, 1) := by decide +kernel
theorem dX9_cut_160 : decode cX9_cut 160 = .ok (.iaload, 1) := by decide +kernel
theorem dX9_cut_161 : decode cX9_cut 161 = .ok (.iconst 1, 1) := by decide +kernel
theorem dX9_cut_162 : decode cX9_cut 162 = .ok (.iadd, 1) := by decide +kernel
theorem dX9_cut_163 : decode cX9_cut 163 = .ok (.goto 10, 3) := by decide +kernel
theorem dX9_cut_166 : decode cX9_cut 166 = .ok (.aload_n 0, 1) := by decide +kernel
theorem dX9_cut_167 : decode cX9_cut 167 = .ok (.getfield 114, 3) := by decide +kernel
theorem dX9_cut_170 : decode cX9_cut 170 = .ok (.iload 5, 2) := by decide +kernel
theorem dX9_cut_172 : decode cX9_cut 172 = .ok (.iaload, 1) := by decide +kernel
theorem dX9_cut_173 : decode cX9_cut 173 = .ok (.iastore, 1) := by decide +kernel
theorem dX9_cut_174 : decode cX9_cut 174 = .ok (.iinc 6 1, 3) := by decide +kernel
theorem dX9_cut_177 : decode cX9_cut 177 = .ok (.goto (-106), 3) := by decide +kernel
theorem dX9_cut_180 : decode cX9_cut 180 = .ok (.aload_n 0, 1) := by decide +kernel
theorem dX9_cut_181 : decode cX9_cut 181 = .ok (.getfield 114, 3) := by decide +kernel
theorem dX9_cut_184 : decode cX9_cut 184 = .ok (.iload 5, 2) := by decide +kernel
theorem dX9_cut_186 : decode cX9_cut 186 = .ok (.iaload, 1) := by decide +kernel
theorem dX9_cut_187 : decode cX9_cut 187 = .ok (.ldc 199, 2) := by decide +kernel
theorem dX9_cut_189 : decode cX9_cut 189 = .ok (.if_icmp .ge 8, 3) := by decide +kernel
theorem dX9_cut_192 : decode cX9_cut 192 = .ok (.iload 5, 2) := by decide +kernel
theorem dX9_cut_194 : decode cX9_cut 194 = .ok (.goto 5, 3) := by decide +kernel
theorem dX9_cut_197 : decode cX9_cut 197 = .ok (.iload 4, 2) := by decide +kernel
theorem dX9_cut_199 : decode cX9_cut 199 = .ok (.istore 4, 2) := by decide +kernel
theorem dX9_cut_201 : decode cX9_cut 201 = .ok (.iinc 5 1, 3) := by decide +kernel
theorem dX9_cut_204 : decode cX9_cut 204 = .ok (.goto (-160), 3) := by decide +kernel
theorem dX9_cut_207 : decode cX9_cut 207 = .ok (.iload_n 3, 1) := by decide +kernel
theorem dX9_cut_208 : decode cX9_cut 208 = .ok (.ifCond .eq 13, 3) := by decide +kernel
theorem dX9_cut_211 : decode cX9_cut 211 = .ok (.aload_n 0, 1) := by decide +kernel
theorem dX9_cut_212 : decode cX9_cut 212 = .ok (.getfield 114, 3) := by decide +kernel
theorem dX9_cut_215 : decode cX9_cut 215 = .ok (.iload 4, 2) := by decide +kernel
theorem dX9_cut_217 : decode cX9_cut 217 = .ok (.iaload, 1) := by decide +kernel
theorem dX9_cut_218 : decode cX9_cut 218 = .ok (.goto 7, 3) := by decide +kernel
theorem dX9_cut_221 : decode cX9_cut 221 = .ok (.iload_n 1, 1) := by decide +kernel
theorem dX9_cut_222 : decode cX9_cut 222 = .ok (.iload 4, 2) := by decide +kernel
theorem dX9_cut_224 : decode cX9_cut 224 = .ok (.isub, 1) := by decide +kernel
theorem dX9_cut_225 : decode cX9_cut 225 = .ok (.ireturn, 1) := by decide +kernel
theorem dX9_when_0 : decode cX9_when 0 = .ok (.aload_n 0, 1) := by decide +kernel
theorem dX9_when_1 : decode cX9_when 1 = .ok (.iconst 0, 1) := by decide +kernel
theorem dX9_when_2 : decode cX9_when 2 = .ok (.putfield 117, 3) := by decide +kernel
theorem dX9_when_5 : decode cX9_when 5 = .ok (.aload_n 0, 1) := by decide +kernel
theorem dX9_when_6 : decode cX9_when 6 = .ok (.iload_n 1, 1) := by decide +kernel
theorem dX9_when_7 : decode cX9_when 7 = .ok (.invokevirtual 180, 3) := by decide +kernel
theorem dX9_when_10 : decode cX9_when 10 = .ok (.ifCond .ne 11, 3) := by decide +kernel
theorem dX9_when_13 : decode cX9_when 13 = .ok (.aload_n 0, 1) := by decide +kernel
theorem dX9_when_14 : decode cX9_when 14 = .ok (.iload_n 2, 1) := by decide +kernel
theorem dX9_when_15 : decode cX9_when 15 = .ok (.invokevirtual 187, 3) := by decide +kernel
theorem dX9_when_18 : decode cX9_when 18 = .ok (.ifCond .eq 5, 3) := by decide +kernel
theorem dX9_when_21 : decode cX9_when 21 = .ok (.iconst (-1), 1) := by decide +kernel
theorem dX9_when_22 : decode cX9_when 22 = .ok (.ireturn, 1) := by decide +kernel
theorem dX9_when_23 : decode cX9_when 23 = .ok (.iload_n 3, 1) := by decide +kernel
theorem dX9_when_24 : decode cX9_when 24 = .ok (.i2l, 1) := by decide +kernel
theorem dX9_when_25 : decode cX9_when 25 = .ok (.lconst 0, 1) := by decide +kernel
theorem dX9_when_26 : decode cX9_when 26 = .ok (.ldc2_w 138, 3) := by decide +kernel
theorem dX9_when_29 : decode cX9_when 29 = .ok (.invokestatic 123, 3) := by decide +kernel
theorem dX9_when_32 : decode cX9_when 32 = .ok (.ifCond .eq 16, 3) := by decide +kernel
theorem dX9_when_35 : decode cX9_when 35 = .ok (.iload 4, 2) := by decide +kernel
theorem dX9_when_37 : decode cX9_when 37 = .ok (.i2l, 1) := by decide +kernel
theorem dX9_when_38 : decode cX9_when 38 = .ok (.lconst 0, 1) := by decide +kernel
theorem dX9_when_39 : decode cX9_when 39 = .ok (.ldc2_w 138, 3) := by decide +kernel
theorem dX9_when_42 : decode cX9_when 42 = .ok (.invokestatic 123, 3) := by decide +kernel
theorem dX9_when_45 : decode cX9_when 45 = .ok (.ifCond .ne 6, 3) := by decide +kernel
theorem dX9_when_48 : decode cX9_when 48 = .ok (.bipush (-2), 2) := by decide +kernel
theorem dX9_when_50 : decode cX9_when 50 = .ok (.ireturn, 1) := by decide +kernel
theorem dX9_when_51 : decode cX9_when 51 = .ok (.iconst 0, 1) := by decide +kernel
theorem dX9_when_52 : decode cX9_when 52 = .ok (.istore 5, 2) := by decide +kernel
theorem dX9_when_54 : decode cX9_when 54 = .ok (.aload_n 0, 1) := by decide +kernel
theorem dX9_when_55 : decode cX9_when 55 = .ok (.getfield 13, 3) := by decide +kernel
theorem dX9_when_58 : decode cX9_when 58 = .ok (.iload_n 1, 1) := by decide +kernel
theorem dX9_when_59 : decode cX9_when 59 = .ok (.iaload, 1) := by decide +kernel
theorem dX9_when_60 : decode cX9_when 60 = .ok (.istore 6, 2) := by decide +kernel
theorem dX9_when_62 : decode cX9_when 62 = .ok (.aload_n 0, 1) := by decide +kernel
theorem dX9_when_63 : decode cX9_when 63 = .ok (.getfield 19, 3) := by decide +kernel
theorem dX9_when_66 : decode cX9_when 66 = .ok (.iload_n 2, 1) := by decide +kernel
theorem dX9_when_67 : decode cX9_when 67 = .ok (.iaload, 1) := by decide +kernel
theorem dX9_when_68 : decode cX9_when 68 = .ok (.istore 7, 2) := by decide +kernel
theorem dX9_when_70 : decode cX9_when 70 = .ok (.iconst 1, 1) := by decide +kernel
theorem dX9_when_71 : decode cX9_when 71 = .ok (.istore 8, 2) := by decide +kernel
theorem dX9_when_73 : decode cX9_when 73 = .ok (.iload 8, 2) := by decide +kernel
theorem dX9_when_75 : decode cX9_when 75 = .ok (.bipush 31, 2) := by decide +kernel
theorem dX9_when_77 : decode cX9_when 77 = .ok (.if_icmp .ge 82, 3) := by decide +kernel
theorem dX9_when_80 : decode cX9_when 80 = .ok (.aload_n 0, 1) := by decide +kernel
theorem dX9_when_81 : decode cX9_when 81 = .ok (.getfield 13, 3) := by decide +kernel
theorem dX9_when_84 : decode cX9_when 84 = .ok (.iload_n 1, 1) := by decide +kernel
theorem dX9_when_85 : decode cX9_when 85 = .ok (.iaload, 1) := by decide +kernel
theorem dX9_when_86 : decode cX9_when 86 = .ok (.iload 8, 2) := by decide +kernel
theorem dX9_when_88 : decode cX9_when 88 = .ok (.iload_n 3, 1) := by decide +kernel
theorem dX9_when_89 : decode cX9_when 89 = .ok (.imul, 1) := by decide +kernel
theorem dX9_when_90 : decode cX9_when 90 = .ok (.iadd, 1) := by decide +kernel
theorem dX9_when_91 : decode cX9_when 91 = .ok (.bipush 99, 2) := by decide +kernel
theorem dX9_when_93 : decode cX9_when 93 = .ok (.if_icmp .ge 17, 3) := by decide +kernel
theorem dX9_when_96 : decode cX9_when 96 = .ok (.aload_n 0, 1) := by decide +kernel
theorem dX9_when_97 : decode cX9_when 97 = .ok (.getfield 13, 3) := by decide +kernel
theorem dX9_when_100 : decode cX9_when 100 = .ok (.iload_n 1, 1) := by decide +kernel
theorem dX9_when_101 : decode cX9_when 101 = .ok (.iaload, 1) := by decide +kernel
theorem dX9_when_102 : decode cX9_when 102 = .ok (.iload 8, 2) := by decide +kernel
theorem dX9_when_104 : decode cX9_when 104 = .ok (.iload_n 3, 1) := by decide +kernel
theorem dX9_when_105 : decode cX9_when 105 = .ok (.imul, 1) := by decide +kernel
theorem dX9_when_106 : decode cX9_when 106 = .ok (.iadd, 1) := by decide +kernel
theorem dX9_when_107 : decode cX9_when 107 = .ok (.goto 5, 3) := by decide +kernel
theorem dX9_when_110 : decode cX9_when 110 = .ok (.bipush 99, 2) := by decide +kernel
theorem dX9_when_112 : decode cX9_when 112 = .ok (.istore 9, 2) := by decide +kernel
theorem dX9_when_114 : decode cX9_when 114 = .ok (.aload_n 0, 1) := by decide +kernel
theorem dX9_when_115 : decode cX9_when 115 = .ok (.getfield 19, 3) := by decide +kernel
theorem dX9_when_118 : decode cX9_when 118 = .ok (.iload_n 2, 1) := by decide +kernel
theorem dX9_when_119 : decode cX9_when 119 = .ok (.iaload, 1) := by decide +kernel
theorem dX9_when_120 : decode cX9_when 120 = .ok (.iload 8, 2) := by decide +kernel
theorem dX9_when_122 : decode cX9_when 122 = .ok (.iload 4, 2) := by decide +kernel
theorem dX9_when_124 : decode cX9_when 124 = .ok (.imul, 1) := by decide +kernel
theorem dX9_when_125 : decode cX9_when 125 = .ok (.iadd, 1) := by decide +kernel
theorem dX9_when_126 : decode cX9_when 126 = .ok (.istore 10, 2) := by decide +kernel
theorem dX9_when_128 : decode cX9_when 128 = .ok (.iload 9, 2) := by decide +kernel
theorem dX9_when_130 : decode cX9_when 130 = .ok (.iload 7, 2) := by decide +kernel
theorem dX9_when_132 : decode cX9_when 132 = .ok (.imul, 1) := by decide +kernel
theorem dX9_when_133 : decode cX9_when 133 = .ok (.iload 6, 2) := by decide +kernel
theorem dX9_when_135 : decode cX9_when 135 = .ok (.iload 10, 2) := by decide +kernel
theorem dX9_when_137 : decode cX9_when 137 = .ok (.imul, 1) := by decide +kernel
theorem dX9_when_138 : decode cX9_when 138 = .ok (.if_icmp .le 15, 3) := by decide +kernel
theorem dX9_when_141 : decode cX9_when 141 = .ok (.iload 8, 2) := by decide +kernel
theorem dX9_when_143 : decode cX9_when 143 = .ok (.istore 5, 2) := by decide +kernel
theorem dX9_when_145 : decode cX9_when 145 = .ok (.iload 9, 2) := by decide +kernel
theorem dX9_when_147 : decode cX9_when 147 = .ok (.istore 6, 2) := by decide +kernel
theorem dX9_when_149 : decode cX9_when 149 = .ok (.iload 10, 2) := by decide +kernel
theorem dX9_when_151 : decode cX9_when 151 = .ok (.istore 7, 2) := by decide +kernel
theorem dX9_when_153 : decode cX9_when 153 = .ok (.iinc 8 1, 3) := by decide +kernel
theorem dX9_when_156 : decode cX9_when 156 = .ok (.goto (-83), 3) := by decide +kernel
theorem dX9_when_159 : decode cX9_when 159 = .ok (.iload 5, 2) := by decide +kernel
theorem dX9_when_161 : decode cX9_when 161 = .ok (.ireturn, 1) := by decide +kernel
theorem dX9_held_0 : decode cX9_held 0 = .ok (.aload_n 0, 1) := by decide +kernel
theorem dX9_held_1 : decode cX9_held 1 = .ok (.iconst 0, 1) := by decide +kernel
theorem dX9_held_2 : decode cX9_held 2 = .ok (.putfield 117, 3) := by decide +kernel
theorem dX9_held_5 : decode cX9_held 5 = .ok (.iload_n 1, 1) := by decide +kernel
theorem dX9_held_6 : decode cX9_held 6 = .ok (.i2l, 1) := by decide +kernel
theorem dX9_held_7 : decode cX9_held 7 = .ok (.lconst 0, 1) := by decide +kernel
theorem dX9_held_8 : decode cX9_held 8 = .ok (.ldc2_w 222, 3) := by decide +kernel
theorem dX9_held_11 : decode cX9_held 11 = .ok (.invokestatic 123, 3) := by decide +kernel
theorem dX9_held_14 : decode cX9_held 14 = .ok (.ifCond .eq 15, 3) := by decide +kernel
theorem dX9_held_17 : decode cX9_held 17 = .ok (.iload_n 3, 1) := by decide +kernel
theorem dX9_held_18 : decode cX9_held 18 = .ok (.i2l, 1) := by decide +kernel
theorem dX9_held_19 : decode cX9_held 19 = .ok (.lconst 0, 1) := by decide +kernel
theorem dX9_held_20 : decode cX9_held 20 = .ok (.ldc2_w 222, 3) := by decide +kernel
theorem dX9_held_23 : decode cX9_held 23 = .ok (.invokestatic 123, 3) := by decide +kernel
theorem dX9_held_26 : decode cX9_held 26 = .ok (.ifCond .ne 5, 3) := by decide +kernel
theorem dX9_held_29 : decode cX9_held 29 = .ok (.iconst (-1), 1) := by decide +kernel
theorem dX9_held_30 : decode cX9_held 30 = .ok (.ireturn, 1) := by decide +kernel
theorem dX9_held_31 : decode cX9_held 31 = .ok (.iload_n 1, 1) := by decide +kernel
theorem dX9_held_32 : decode cX9_held 32 = .ok (.iload_n 3, 1) := by decide +kernel
theorem dX9_held_33 : decode cX9_held 33 = .ok (.if_icmp .eq 41, 3) := by decide +kernel
theorem dX9_held_36 : decode cX9_held 36 = .ok (.iload_n 2, 1) := by decide +kernel
theorem dX9_held_37 : decode cX9_held 37 = .ok (.i2l, 1) := by decide +kernel
theorem dX9_held_38 : decode cX9_held 38 = .ok (.lconst 1, 1) := by decide +kernel
theorem dX9_held_39 : decode cX9_held 39 = .ok (.ldc2_w 138, 3) := by decide +kernel
theorem dX9_held_42 : decode cX9_held 42 = .ok (.invokestatic 123, 3) := by decide +kernel
theorem dX9_held_45 : decode cX9_held 45 = .ok (.ifCond .eq 29, 3) := by decide +kernel
theorem dX9_held_48 : decode cX9_held 48 = .ok (.iload 4, 2) := by decide +kernel
theorem dX9_held_50 : decode cX9_held 50 = .ok (.i2l, 1) := by decide +kernel
theorem dX9_held_51 : decode cX9_held 51 = .ok (.lconst 1, 1) := by decide +kernel
theorem dX9_held_52 : decode cX9_held 52 = .ok (.ldc2_w 138, 3) := by decide +kernel
theorem dX9_held_55 : decode cX9_held 55 = .ok (.invokestatic 123, 3) := by decide +kernel
theorem dX9_held_58 : decode cX9_held 58 = .ok (.ifCond .eq 16, 3) := by decide +kernel
theorem dX9_held_61 : decode cX9_held 61 = .ok (.iload 5, 2) := by decide +kernel
theorem dX9_held_63 : decode cX9_held 63 = .ok (.i2l, 1) := by decide +kernel
theorem dX9_held_64 : decode cX9_held 64 = .ok (.ldc2_w 240, 3) := by decide +kernel
theorem dX9_held_67 : decode cX9_held 67 = .ok (.lconst 1, 1) := by decide +kernel
theorem dX9_held_68 : decode cX9_held 68 = .ok (.invokestatic 123, 3) := by decide +kernel
theorem dX9_held_71 : decode cX9_held 71 = .ok (.ifCond .ne 6, 3) := by decide +kernel
theorem dX9_held_74 : decode cX9_held 74 = .ok (.bipush (-2), 2) := by decide +kernel
theorem dX9_held_76 : decode cX9_held 76 = .ok (.ireturn, 1) := by decide +kernel
theorem dX9_held_77 : decode cX9_held 77 = .ok (.aload_n 0, 1) := by decide +kernel
theorem dX9_held_78 : decode cX9_held 78 = .ok (.getfield 254, 3) := by decide +kernel
theorem dX9_held_81 : decode cX9_held 81 = .ok (.bipush 8, 2) := by decide +kernel
theorem dX9_held_83 : decode cX9_held 83 = .ok (.if_icmp .ne 6, 3) := by decide +kernel
theorem dX9_held_86 : decode cX9_held 86 = .ok (.bipush (-4), 2) := by decide +kernel
theorem dX9_held_88 : decode cX9_held 88 = .ok (.ireturn, 1) := by decide +kernel
theorem dX9_held_89 : decode cX9_held 89 = .ok (.aload_n 0, 1) := by decide +kernel
theorem dX9_held_90 : decode cX9_held 90 = .ok (.getfield 81, 3) := by decide +kernel
theorem dX9_held_93 : decode cX9_held 93 = .ok (.aload_n 0, 1) := by decide +kernel
theorem dX9_held_94 : decode cX9_held 94 = .ok (.getfield 254, 3) := by decide +kernel
theorem dX9_held_97 : decode cX9_held 97 = .ok (.iload_n 1, 1) := by decide +kernel
theorem dX9_held_98 : decode cX9_held 98 = .ok (.iastore, 1) := by decide +kernel
theorem dX9_held_99 : decode cX9_held 99 = .ok (.aload_n 0, 1) := by decide +kernel
theorem dX9_held_100 : decode cX9_held 100 = .ok (.getfield 84, 3) := by decide +kernel
theorem dX9_held_103 : decode cX9_held 103 = .ok (.aload_n 0, 1) := by decide +kernel
theorem dX9_held_104 : decode cX9_held 104 = .ok (.getfield 254, 3) := by decide +kernel
theorem dX9_held_107 : decode cX9_held 107 = .ok (.iload_n 2, 1) := by decide +kernel
theorem dX9_held_108 : decode cX9_held 108 = .ok (.iastore, 1) := by decide +kernel
theorem dX9_held_109 : decode cX9_held 109 = .ok (.aload_n 0, 1) := by decide +kernel
theorem dX9_held_110 : decode cX9_held 110 = .ok (.getfield 87, 3) := by decide +kernel
theorem dX9_held_113 : decode cX9_held 113 = .ok (.aload_n 0, 1) := by decide +kernel
theorem dX9_held_114 : decode cX9_held 114 = .ok (.getfield 254, 3) := by decide +kernel
theorem dX9_held_117 : decode cX9_held 117 = .ok (.iload_n 3, 1) := by decide +kernel
theorem dX9_held_118 : decode cX9_held 118 = .ok (.iastore, 1) := by decide +kernel
theorem dX9_held_119 : decode cX9_held 119 = .ok (.aload_n 0, 1) := by decide +kernel
theorem dX9_held_120 : decode cX9_held 120 = .ok (.getfield 90, 3) := by decide +kernel
theorem dX9_held_123 : decode cX9_held 123 = .ok (.aload_n 0, 1) := by decide +kernel
theorem dX9_held_124 : decode cX9_held 124 = .ok (.getfield 254, 3) := by decide +kernel
theorem dX9_held_127 : decode cX9_held 127 = .ok (.iload 4, 2) := by decide +kernel
theorem dX9_held_129 : decode cX9_held 129 = .ok (.iastore, 1) := by decide +kernel
theorem dX9_held_130 : decode cX9_held 130 = .ok (.aload_n 0, 1) := by decide +kernel
theorem dX9_held_131 : decode cX9_held 131 = .ok (.getfield 93, 3) := by decide +kernel
theorem dX9_held_134 : decode cX9_held 134 = .ok (.aload_n 0, 1) := by decide +kernel
theorem dX9_held_135 : decode cX9_held 135 = .ok (.getfield 254, 3) := by decide +kernel
theorem dX9_held_138 : decode cX9_held 138 = .ok (.iload 5, 2) := by decide +kernel
theorem dX9_held_140 : decode cX9_held 140 = .ok (.iastore, 1) := by decide +kernel
theorem dX9_held_141 : decode cX9_held 141 = .ok (.aload_n 0, 1) := by decide +kernel
theorem dX9_held_142 : decode cX9_held 142 = .ok (.dup, 1) := by decide +kernel
theorem dX9_held_143 : decode cX9_held 143 = .ok (.getfield 254, 3) := by decide +kernel
theorem dX9_held_146 : decode cX9_held 146 = .ok (.iconst 1, 1) := by decide +kernel
theorem dX9_held_147 : decode cX9_held 147 = .ok (.iadd, 1) := by decide +kernel
theorem dX9_held_148 : decode cX9_held 148 = .ok (.putfield 254, 3) := by decide +kernel
theorem dX9_held_151 : decode cX9_held 151 = .ok (.aload_n 0, 1) := by decide +kernel
theorem dX9_held_152 : decode cX9_held 152 = .ok (.getfield 254, 3) := by decide +kernel
theorem dX9_held_155 : decode cX9_held 155 = .ok (.ireturn, 1) := by decide +kernel
theorem dX9_unheld_0 : decode cX9_unheld 0 = .ok (.aload_n 0, 1) := by decide +kernel
theorem dX9_unheld_1 : decode cX9_unheld 1 = .ok (.iconst 0, 1) := by decide +kernel
theorem dX9_unheld_2 : decode cX9_unheld 2 = .ok (.putfield 117, 3) := by decide +kernel
theorem dX9_unheld_5 : decode cX9_unheld 5 = .ok (.aload_n 0, 1) := by decide +kernel
theorem dX9_unheld_6 : decode cX9_unheld 6 = .ok (.getfield 254, 3) := by decide +kernel
theorem dX9_unheld_9 : decode cX9_unheld 9 = .ok (.istore_n 1, 1) := by decide +kernel
theorem dX9_unheld_10 : decode cX9_unheld 10 = .ok (.aload_n 0, 1) := by decide +kernel
theorem dX9_unheld_11 : decode cX9_unheld 11 = .ok (.iconst 0, 1) := by decide +kernel
theorem dX9_unheld_12 : decode cX9_unheld 12 = .ok (.putfield 254, 3) := by decide +kernel
theorem dX9_unheld_15 : decode cX9_unheld 15 = .ok (.iload_n 1, 1) := by decide +kernel
theorem dX9_unheld_16 : decode cX9_unheld 16 = .ok (.ireturn, 1) := by decide +kernel
theorem dX9_armIn_0 : decode cX9_armIn 0 = .ok (.iconst 1, 1) := by decide +kernel
theorem dX9_armIn_1 : decode cX9_armIn 1 = .ok (.iload_n 1, 1) := by decide +kernel
theorem dX9_armIn_2 : decode cX9_armIn 2 = .ok (.ifCond .ne 11, 3) := by decide +kernel
theorem dX9_armIn_5 : decode cX9_armIn 5 = .ok (.iload_n 0, 1) := by decide +kernel
theorem dX9_armIn_6 : decode cX9_armIn 6 = .ok (.sipush 400, 3) := by decide +kernel
theorem dX9_armIn_9 : decode cX9_armIn 9 = .ok (.idiv, 1) := by decide +kernel
theorem dX9_armIn_10 : decode cX9_armIn 10 = .ok (.goto 22, 3) := by decide +kernel
theorem dX9_armIn_13 : decode cX9_armIn 13 = .ok (.iload_n 1, 1) := by decide +kernel
theorem dX9_armIn_14 : decode cX9_armIn 14 = .ok (.iconst 1, 1) := by decide +kernel
theorem dX9_armIn_15 : decode cX9_armIn 15 = .ok (.if_icmp .ne 13, 3) := by decide +kernel
theorem dX9_armIn_18 : decode cX9_armIn 18 = .ok (.iload_n 0, 1) := by decide +kernel
theorem dX9_armIn_19 : decode cX9_armIn 19 = .ok (.bipush 20, 2) := by decide +kernel
theorem dX9_armIn_21 : decode cX9_armIn 21 = .ok (.idiv, 1) := by decide +kernel
theorem dX9_armIn_22 : decode cX9_armIn 22 = .ok (.bipush 20, 2) := by decide +kernel
theorem dX9_armIn_24 : decode cX9_armIn 24 = .ok (.irem, 1) := by decide +kernel
theorem dX9_armIn_25 : decode cX9_armIn 25 = .ok (.goto 7, 3) := by decide +kernel
theorem dX9_armIn_28 : decode cX9_armIn 28 = .ok (.iload_n 0, 1) := by decide +kernel
theorem dX9_armIn_29 : decode cX9_armIn 29 = .ok (.bipush 20, 2) := by decide +kernel
theorem dX9_armIn_31 : decode cX9_armIn 31 = .ok (.irem, 1) := by decide +kernel
theorem dX9_armIn_32 : decode cX9_armIn 32 = .ok (.iadd, 1) := by decide +kernel
theorem dX9_armIn_33 : decode cX9_armIn 33 = .ok (.ireturn, 1) := by decide +kernel
theorem dX9_fits_0 : decode cX9_fits 0 = .ok (.iconst 1, 1) := by decide +kernel
theorem dX9_fits_1 : decode cX9_fits 1 = .ok (.istore_n 2, 1) := by decide +kernel
theorem dX9_fits_2 : decode cX9_fits 2 = .ok (.iconst 0, 1) := by decide +kernel
theorem dX9_fits_3 : decode cX9_fits 3 = .ok (.istore_n 3, 1) := by decide +kernel
theorem dX9_fits_4 : decode cX9_fits 4 = .ok (.iload_n 3, 1) := by decide +kernel
theorem dX9_fits_5 : decode cX9_fits 5 = .ok (.aload_n 0, 1) := by decide +kernel
theorem dX9_fits_6 : decode cX9_fits 6 = .ok (.getfield 254, 3) := by decide +kernel
theorem dX9_fits_9 : decode cX9_fits 9 = .ok (.if_icmp .ge 84, 3) := by decide +kernel
theorem dX9_fits_12 : decode cX9_fits 12 = .ok (.aload_n 0, 1) := by decide +kernel
theorem dX9_fits_13 : decode cX9_fits 13 = .ok (.getfield 84, 3) := by decide +kernel
theorem dX9_fits_16 : decode cX9_fits 16 = .ok (.iload_n 3, 1) := by decide +kernel
theorem dX9_fits_17 : decode cX9_fits 17 = .ok (.iaload, 1) := by decide +kernel
theorem dX9_fits_18 : decode cX9_fits 18 = .ok (.iload_n 1, 1) := by decide +kernel
theorem dX9_fits_19 : decode cX9_fits 19 = .ok (.aload_n 0, 1) := by decide +kernel
theorem dX9_fits_20 : decode cX9_fits 20 = .ok (.getfield 81, 3) := by decide +kernel
theorem dX9_fits_23 : decode cX9_fits 23 = .ok (.iload_n 3, 1) := by decide +kernel
theorem dX9_fits_24 : decode cX9_fits 24 = .ok (.iaload, 1) := by decide +kernel
theorem dX9_fits_25 : decode cX9_fits 25 = .ok (.invokestatic 257, 3) := by decide +kernel
theorem dX9_fits_28 : decode cX9_fits 28 = .ok (.imul, 1) := by decide +kernel
theorem dX9_fits_29 : decode cX9_fits 29 = .ok (.aload_n 0, 1) := by decide +kernel
theorem dX9_fits_30 : decode cX9_fits 30 = .ok (.getfield 90, 3) := by decide +kernel
theorem dX9_fits_33 : decode cX9_fits 33 = .ok (.iload_n 3, 1) := by decide +kernel
theorem dX9_fits_34 : decode cX9_fits 34 = .ok (.iaload, 1) := by decide +kernel
theorem dX9_fits_35 : decode cX9_fits 35 = .ok (.iload_n 1, 1) := by decide +kernel
theorem dX9_fits_36 : decode cX9_fits 36 = .ok (.aload_n 0, 1) := by decide +kernel
theorem dX9_fits_37 : decode cX9_fits 37 = .ok (.getfield 87, 3) := by decide +kernel
theorem dX9_fits_40 : decode cX9_fits 40 = .ok (.iload_n 3, 1) := by decide +kernel
theorem dX9_fits_41 : decode cX9_fits 41 = .ok (.iaload, 1) := by decide +kernel
theorem dX9_fits_42 : decode cX9_fits 42 = .ok (.invokestatic 257, 3) := by decide +kernel
theorem dX9_fits_45 : decode cX9_fits 45 = .ok (.imul, 1) := by decide +kernel
theorem dX9_fits_46 : decode cX9_fits 46 = .ok (.isub, 1) := by decide +kernel
theorem dX9_fits_47 : decode cX9_fits 47 = .ok (.istore 4, 2) := by decide +kernel
theorem dX9_fits_49 : decode cX9_fits 49 = .ok (.iload_n 2, 1) := by decide +kernel
theorem dX9_fits_50 : decode cX9_fits 50 = .ok (.ifCond .eq 35, 3) := by decide +kernel
theorem dX9_fits_53 : decode cX9_fits 53 = .ok (.iload 4, 2) := by decide +kernel
theorem dX9_fits_55 : decode cX9_fits 55 = .ok (.ifCond .le 7, 3) := by decide +kernel
theorem dX9_fits_58 : decode cX9_fits 58 = .ok (.iconst 1, 1) := by decide +kernel
theorem dX9_fits_59 : decode cX9_fits 59 = .ok (.goto 13, 3) := by decide +kernel
theorem dX9_fits_62 : decode cX9_fits 62 = .ok (.iload 4, 2) := by decide +kernel
theorem dX9_fits_64 : decode cX9_fits 64 = .ok (.ifCond .ge 7, 3) := by decide +kernel
theorem dX9_fits_67 : decode cX9_fits 67 = .ok (.iconst (-1), 1) := by decide +kernel
theorem dX9_fits_68 : decode cX9_fits 68 = .ok (.goto 4, 3) := by decide +kernel
theorem dX9_fits_71 : decode cX9_fits 71 = .ok (.iconst 0, 1) := by decide +kernel
theorem dX9_fits_72 : decode cX9_fits 72 = .ok (.aload_n 0, 1) := by decide +kernel
theorem dX9_fits_73 : decode cX9_fits 73 = .ok (.getfield 93, 3) := by decide +kernel
theorem dX9_fits_76 : decode cX9_fits 76 = .ok (.iload_n 3, 1) := by decide +kernel
theorem dX9_fits_77 : decode cX9_fits 77 = .ok (.iaload, 1) := by decide +kernel
theorem dX9_fits_78 : decode cX9_fits 78 = .ok (.if_icmp .ne 7, 3) := by decide +kernel
theorem dX9_fits_81 : decode cX9_fits 81 = .ok (.iconst 1, 1) := by decide +kernel
theorem dX9_fits_82 : decode cX9_fits 82 = .ok (.goto 4, 3) := by decide +kernel
theorem dX9_fits_85 : decode cX9_fits 85 = .ok (.iconst 0, 1) := by decide +kernel
theorem dX9_fits_86 : decode cX9_fits 86 = .ok (.istore_n 2, 1) := by decide +kernel
theorem dX9_fits_87 : decode cX9_fits 87 = .ok (.iinc 3 1, 3) := by decide +kernel
theorem dX9_fits_90 : decode cX9_fits 90 = .ok (.goto (-86), 3) := by decide +kernel
theorem dX9_fits_93 : decode cX9_fits 93 = .ok (.iload_n 2, 1) := by decide +kernel
theorem dX9_fits_94 : decode cX9_fits 94 = .ok (.ireturn, 1) := by decide +kernel
theorem dX9_layRows_0 : decode cX9_layRows 0 = .ok (.iconst 0, 1) := by decide +kernel
theorem dX9_layRows_1 : decode cX9_layRows 1 = .ok (.istore_n 2, 1) := by decide +kernel
theorem dX9_layRows_2 : decode cX9_layRows 2 = .ok (.aload_n 0, 1) := by decide +kernel
theorem dX9_layRows_3 : decode cX9_layRows 3 = .ok (.bipush 99, 2) := by decide +kernel
theorem dX9_layRows_5 : decode cX9_layRows 5 = .ok (.putfield 260, 3) := by decide +kernel
theorem dX9_layRows_8 : decode cX9_layRows 8 = .ok (.aload_n 0, 1) := by decide +kernel
theorem dX9_layRows_9 : decode cX9_layRows 9 = .ok (.iconst 0, 1) := by decide +kernel
theorem dX9_layRows_10 : decode cX9_layRows 10 = .ok (.putfield 263, 3) := by decide +kernel
theorem dX9_layRows_13 : decode cX9_layRows 13 = .ok (.iconst 0, 1) := by decide +kernel
theorem dX9_layRows_14 : decode cX9_layRows 14 = .ok (.istore_n 3, 1) := by decide +kernel
theorem dX9_layRows_15 : decode cX9_layRows 15 = .ok (.iload_n 3, 1) := by decide +kernel
theorem dX9_layRows_16 : decode cX9_layRows 16 = .ok (.sipush 8000, 3) := by decide +kernel
theorem dX9_layRows_19 : decode cX9_layRows 19 = .ok (.if_icmp .ge 71, 3) := by decide +kernel
theorem dX9_layRows_22 : decode cX9_layRows 22 = .ok (.aload_n 0, 1) := by decide +kernel
theorem dX9_layRows_23 : decode cX9_layRows 23 = .ok (.iload_n 3, 1) := by decide +kernel
theorem dX9_layRows_24 : decode cX9_layRows 24 = .ok (.invokevirtual 266, 3) := by decide +kernel
theorem dX9_layRows_27 : decode cX9_layRows 27 = .ok (.ifCond .eq 57, 3) := by decide +kernel
theorem dX9_layRows_30 : decode cX9_layRows 30 = .ok (.iload_n 3, 1) := by decide +kernel
theorem dX9_layRows_31 : decode cX9_layRows 31 = .ok (.iload_n 1, 1) := by decide +kernel
theorem dX9_layRows_32 : decode cX9_layRows 32 = .ok (.invokestatic 257, 3) := by decide +kernel
theorem dX9_layRows_35 : decode cX9_layRows 35 = .ok (.istore 4, 2) := by decide +kernel
theorem dX9_layRows_37 : decode cX9_layRows 37 = .ok (.iinc 2 1, 3) := by decide +kernel
theorem dX9_layRows_40 : decode cX9_layRows 40 = .ok (.aload_n 0, 1) := by decide +kernel
theorem dX9_layRows_41 : decode cX9_layRows 41 = .ok (.iload 4, 2) := by decide +kernel
theorem dX9_layRows_43 : decode cX9_layRows 43 = .ok (.aload_n 0, 1) := by decide +kernel
theorem dX9_layRows_44 : decode cX9_layRows 44 = .ok (.getfield 260, 3) := by decide +kernel
theorem dX9_layRows_47 : decode cX9_layRows 47 = .ok (.if_icmp .ge 8, 3) := by decide +kernel
theorem dX9_layRows_50 : decode cX9_layRows 50 = .ok (.iload 4, 2) := by decide +kernel
theorem dX9_layRows_52 : decode cX9_layRows 52 = .ok (.goto 7, 3) := by decide +kernel
theorem dX9_layRows_55 : decode cX9_layRows 55 = .ok (.aload_n 0, 1) := by decide +kernel
theorem dX9_layRows_56 : decode cX9_layRows 56 = .ok (.getfield 260, 3) := by decide +kernel
theorem dX9_layRows_59 : decode cX9_layRows 59 = .ok (.putfield 260, 3) := by decide +kernel
theorem dX9_layRows_62 : decode cX9_layRows 62 = .ok (.aload_n 0, 1) := by decide +kernel
theorem dX9_layRows_63 : decode cX9_layRows 63 = .ok (.iload 4, 2) := by decide +kernel
theorem dX9_layRows_65 : decode cX9_layRows 65 = .ok (.aload_n 0, 1) := by decide +kernel
theorem dX9_layRows_66 : decode cX9_layRows 66 = .ok (.getfield 263, 3) := by decide +kernel
theorem dX9_layRows_69 : decode cX9_layRows 69 = .ok (.if_icmp .le 8, 3) := by decide +kernel
theorem dX9_layRows_72 : decode cX9_layRows 72 = .ok (.iload 4, 2) := by decide +kernel
theorem dX9_layRows_74 : decode cX9_layRows 74 = .ok (.goto 7, 3) := by decide +kernel
theorem dX9_layRows_77 : decode cX9_layRows 77 = .ok (.aload_n 0, 1) := by decide +kernel
theorem dX9_layRows_78 : decode cX9_layRows 78 = .ok (.getfield 263, 3) := by decide +kernel
theorem dX9_layRows_81 : decode cX9_layRows 81 = .ok (.putfield 263, 3) := by decide +kernel
theorem dX9_layRows_84 : decode cX9_layRows 84 = .ok (.iinc 3 1, 3) := by decide +kernel
theorem dX9_layRows_87 : decode cX9_layRows 87 = .ok (.goto (-72), 3) := by decide +kernel
theorem dX9_layRows_90 : decode cX9_layRows 90 = .ok (.iload_n 2, 1) := by decide +kernel
theorem dX9_layRows_91 : decode cX9_layRows 91 = .ok (.ireturn, 1) := by decide +kernel
theorem dX9_mayBe_0 : decode cX9_mayBe 0 = .ok (.aload_n 0, 1) := by decide +kernel
theorem dX9_mayBe_1 : decode cX9_mayBe 1 = .ok (.iconst 0, 1) := by decide +kernel
theorem dX9_mayBe_2 : decode cX9_mayBe 2 = .ok (.putfield 117, 3) := by decide +kernel
theorem dX9_mayBe_5 : decode cX9_mayBe 5 = .ok (.aload_n 0, 1) := by decide +kernel
theorem dX9_mayBe_6 : decode cX9_mayBe 6 = .ok (.iconst 0, 1) := by decide +kernel
theorem dX9_mayBe_7 : decode cX9_mayBe 7 = .ok (.invokevirtual 269, 3) := by decide +kernel
theorem dX9_mayBe_10 : decode cX9_mayBe 10 = .ok (.ireturn, 1) := by decide +kernel
theorem dX9_arm_0 : decode cX9_arm 0 = .ok (.aload_n 0, 1) := by decide +kernel
theorem dX9_arm_1 : decode cX9_arm 1 = .ok (.iconst 0, 1) := by decide +kernel
theorem dX9_arm_2 : decode cX9_arm 2 = .ok (.putfield 117, 3) := by decide +kernel
theorem dX9_arm_5 : decode cX9_arm 5 = .ok (.iload_n 1, 1) := by decide +kernel
theorem dX9_arm_6 : decode cX9_arm 6 = .ok (.i2l, 1) := by decide +kernel
theorem dX9_arm_7 : decode cX9_arm 7 = .ok (.lconst 0, 1) := by decide +kernel
theorem dX9_arm_8 : decode cX9_arm 8 = .ok (.ldc2_w 222, 3) := by decide +kernel
theorem dX9_arm_11 : decode cX9_arm 11 = .ok (.invokestatic 123, 3) := by decide +kernel
theorem dX9_arm_14 : decode cX9_arm 14 = .ok (.ifCond .ne 5, 3) := by decide +kernel
theorem dX9_arm_17 : decode cX9_arm 17 = .ok (.iconst (-1), 1) := by decide +kernel
theorem dX9_arm_18 : decode cX9_arm 18 = .ok (.ireturn, 1) := by decide +kernel
theorem dX9_arm_19 : decode cX9_arm 19 = .ok (.aload_n 0, 1) := by decide +kernel
theorem dX9_arm_20 : decode cX9_arm 20 = .ok (.iload_n 1, 1) := by decide +kernel
theorem dX9_arm_21 : decode cX9_arm 21 = .ok (.invokevirtual 269, 3) := by decide +kernel
theorem dX9_arm_24 : decode cX9_arm 24 = .ok (.ifCond .ne 8, 3) := by decide +kernel
theorem dX9_arm_27 : decode cX9_arm 27 = .ok (.bipush (-9), 2) := by decide +kernel
theorem dX9_arm_29 : decode cX9_arm 29 = .ok (.goto 18, 3) := by decide +kernel
theorem dX9_arm_32 : decode cX9_arm 32 = .ok (.iload_n 2, 1) := by decide +kernel
theorem dX9_arm_33 : decode cX9_arm 33 = .ok (.ifCond .eq 10, 3) := by decide +kernel
theorem dX9_arm_36 : decode cX9_arm 36 = .ok (.aload_n 0, 1) := by decide +kernel
theorem dX9_arm_37 : decode cX9_arm 37 = .ok (.getfield 263, 3) := by decide +kernel
theorem dX9_arm_40 : decode cX9_arm 40 = .ok (.goto 7, 3) := by decide +kernel
theorem dX9_arm_43 : decode cX9_arm 43 = .ok (.aload_n 0, 1) := by decide +kernel
theorem dX9_arm_44 : decode cX9_arm 44 = .ok (.getfield 260, 3) := by decide +kernel
theorem dX9_arm_47 : decode cX9_arm 47 = .ok (.ireturn, 1) := by decide +kernel
theorem dX9_keep_0 : decode cX9_keep 0 = .ok (.aload_n 0, 1) := by decide +kernel
theorem dX9_keep_1 : decode cX9_keep 1 = .ok (.iconst 0, 1) := by decide +kernel
theorem dX9_keep_2 : decode cX9_keep 2 = .ok (.putfield 117, 3) := by decide +kernel
theorem dX9_keep_5 : decode cX9_keep 5 = .ok (.iload_n 1, 1) := by decide +kernel
theorem dX9_keep_6 : decode cX9_keep 6 = .ok (.i2l, 1) := by decide +kernel
theorem dX9_keep_7 : decode cX9_keep 7 = .ok (.lconst 0, 1) := by decide +kernel
theorem dX9_keep_8 : decode cX9_keep 8 = .ok (.lconst 1, 1) := by decide +kernel
theorem dX9_keep_9 : decode cX9_keep 9 = .ok (.invokestatic 123, 3) := by decide +kernel
theorem dX9_keep_12 : decode cX9_keep 12 = .ok (.ifCond .ne 5, 3) := by decide +kernel
theorem dX9_keep_15 : decode cX9_keep 15 = .ok (.iconst (-1), 1) := by decide +kernel
theorem dX9_keep_16 : decode cX9_keep 16 = .ok (.ireturn, 1) := by decide +kernel
theorem dX9_keep_17 : decode cX9_keep 17 = .ok (.aload_n 0, 1) := by decide +kernel
theorem dX9_keep_18 : decode cX9_keep 18 = .ok (.getfield 99, 3) := by decide +kernel
theorem dX9_keep_21 : decode cX9_keep 21 = .ok (.iload_n 1, 1) := by decide +kernel
theorem dX9_keep_22 : decode cX9_keep 22 = .ok (.iconst 1, 1) := by decide +kernel
theorem dX9_keep_23 : decode cX9_keep 23 = .ok (.bastore, 1) := by decide +kernel
theorem dX9_keep_24 : decode cX9_keep 24 = .ok (.iconst 0, 1) := by decide +kernel
theorem dX9_keep_25 : decode cX9_keep 25 = .ok (.istore_n 2, 1) := by decide +kernel
theorem dX9_keep_26 : decode cX9_keep 26 = .ok (.iload_n 2, 1) := by decide +kernel
theorem dX9_keep_27 : decode cX9_keep 27 = .ok (.bipush 6, 2) := by decide +kernel
theorem dX9_keep_29 : decode cX9_keep 29 = .ok (.if_icmp .ge 26, 3) := by decide +kernel
theorem dX9_keep_32 : decode cX9_keep 32 = .ok (.aload_n 0, 1) := by decide +kernel
theorem dX9_keep_33 : decode cX9_keep 33 = .ok (.getfield 96, 3) := by decide +kernel
theorem dX9_keep_36 : decode cX9_keep 36 = .ok (.bipush 60, 2) := by decide +kernel
theorem dX9_keep_38 : decode cX9_keep 38 = .ok (.iload_n 1, 1) := by decide +kernel
theorem dX9_keep_39 : decode cX9_keep 39 = .ok (.imul, 1) := by decide +kernel
theorem dX9_keep_40 : decode cX9_keep 40 = .ok (.iload_n 2, 1) := by decide +kernel
theorem dX9_keep_41 : decode cX9_keep 41 = .ok (.iadd, 1) := by decide +kernel
theorem dX9_keep_42 : decode cX9_keep 42 = .ok (.aload_n 0, 1) := by decide +kernel
theorem dX9_keep_43 : decode cX9_keep 43 = .ok (.getfield 13, 3) := by decide +kernel
theorem dX9_keep_46 : decode cX9_keep 46 = .ok (.iload_n 2, 1) := by decide +kernel
theorem dX9_keep_47 : decode cX9_keep 47 = .ok (.iaload, 1) := by decide +kernel
theorem dX9_keep_48 : decode cX9_keep 48 = .ok (.iastore, 1) := by decide +kernel
theorem dX9_keep_49 : decode cX9_keep 49 = .ok (.iinc 2 1, 3) := by decide +kernel
theorem dX9_keep_52 : decode cX9_keep 52 = .ok (.goto (-26), 3) := by decide +kernel
theorem dX9_keep_55 : decode cX9_keep 55 = .ok (.iconst 0, 1) := by decide +kernel
theorem dX9_keep_56 : decode cX9_keep 56 = .ok (.istore_n 2, 1) := by decide +kernel
theorem dX9_keep_57 : decode cX9_keep 57 = .ok (.iload_n 2, 1) := by decide +kernel
theorem dX9_keep_58 : decode cX9_keep 58 = .ok (.iconst 4, 1) := by decide +kernel
theorem dX9_keep_59 : decode cX9_keep 59 = .ok (.if_icmp .ge 29, 3) := by decide +kernel
theorem dX9_keep_62 : decode cX9_keep 62 = .ok (.aload_n 0, 1) := by decide +kernel
theorem dX9_keep_63 : decode cX9_keep 63 = .ok (.getfield 96, 3) := by decide +kernel
theorem dX9_keep_66 : decode cX9_keep 66 = .ok (.bipush 60, 2) := by decide +kernel
theorem dX9_keep_68 : decode cX9_keep 68 = .ok (.iload_n 1, 1) := by decide +kernel
theorem dX9_keep_69 : decode cX9_keep 69 = .ok (.imul, 1) := by decide +kernel
theorem dX9_keep_70 : decode cX9_keep 70 = .ok (.bipush 6, 2) := by decide +kernel
theorem dX9_keep_72 : decode cX9_keep 72 = .ok (.iadd, 1) := by decide +kernel
theorem dX9_keep_73 : decode cX9_keep 73 = .ok (.iload_n 2, 1) := by decide +kernel
theorem dX9_keep_74 : decode cX9_keep 74 = .ok (.iadd, 1) := by decide +kernel
theorem dX9_keep_75 : decode cX9_keep 75 = .ok (.aload_n 0, 1) := by decide +kernel
theorem dX9_keep_76 : decode cX9_keep 76 = .ok (.getfield 22, 3) := by decide +kernel
theorem dX9_keep_79 : decode cX9_keep 79 = .ok (.iload_n 2, 1) := by decide +kernel
theorem dX9_keep_80 : decode cX9_keep 80 = .ok (.iaload, 1) := by decide +kernel
theorem dX9_keep_81 : decode cX9_keep 81 = .ok (.iastore, 1) := by decide +kernel
theorem dX9_keep_82 : decode cX9_keep 82 = .ok (.iinc 2 1, 3) := by decide +kernel
theorem dX9_keep_85 : decode cX9_keep 85 = .ok (.goto (-28), 3) := by decide +kernel
theorem dX9_keep_88 : decode cX9_keep 88 = .ok (.iconst 0, 1) := by decide +kernel
theorem dX9_keep_89 : decode cX9_keep 89 = .ok (.istore_n 2, 1) := by decide +kernel
theorem dX9_keep_90 : decode cX9_keep 90 = .ok (.iload_n 2, 1) := by decide +kernel
theorem dX9_keep_91 : decode cX9_keep 91 = .ok (.bipush 12, 2) := by decide +kernel
theorem dX9_keep_93 : decode cX9_keep 93 = .ok (.if_icmp .ge 79, 3) := by decide +kernel
theorem dX9_keep_96 : decode cX9_keep 96 = .ok (.aload_n 0, 1) := by decide +kernel
theorem dX9_keep_97 : decode cX9_keep 97 = .ok (.getfield 96, 3) := by decide +kernel
theorem dX9_keep_100 : decode cX9_keep 100 = .ok (.bipush 60, 2) := by decide +kernel
theorem dX9_keep_102 : decode cX9_keep 102 = .ok (.iload_n 1, 1) := by decide +kernel
theorem dX9_keep_103 : decode cX9_keep 103 = .ok (.imul, 1) := by decide +kernel
theorem dX9_keep_104 : decode cX9_keep 104 = .ok (.bipush 10, 2) := by decide +kernel
theorem dX9_keep_106 : decode cX9_keep 106 = .ok (.iadd, 1) := by decide +kernel
theorem dX9_keep_107 : decode cX9_keep 107 = .ok (.iload_n 2, 1) := by decide +kernel
theorem dX9_keep_108 : decode cX9_keep 108 = .ok (.iadd, 1) := by decide +kernel
theorem dX9_keep_109 : decode cX9_keep 109 = .ok (.bipush 10, 2) := by decide +kernel
theorem dX9_keep_111 : decode cX9_keep 111 = .ok (.aload_n 0, 1) := by decide +kernel
theorem dX9_keep_112 : decode cX9_keep 112 = .ok (.getfield 54, 3) := by decide +kernel
theorem dX9_keep_115 : decode cX9_keep 115 = .ok (.iload_n 2, 1) := by decide +kernel
theorem dX9_keep_116 : decode cX9_keep 116 = .ok (.iaload, 1) := by decide +kernel
theorem dX9_keep_117 : decode cX9_keep 117 = .ok (.imul, 1) := by decide +kernel
theorem dX9_keep_118 : decode cX9_keep 118 = .ok (.aload_n 0, 1) := by decide +kernel
theorem dX9_keep_119 : decode cX9_keep 119 = .ok (.getfield 57, 3) := by decide +kernel
theorem dX9_keep_122 : decode cX9_keep 122 = .ok (.iload_n 2, 1) := by decide +kernel
end
section
theorem dX9_keep_123 : decode cX9_keep 123 = .ok (.iaload, 1) := by decide +kernel
theorem dX9_keep_124 : decode cX9_keep 124 = .ok (.iadd, 1) := by decide +kernel
theorem dX9_keep_125 : decode cX9_keep 125 = .ok (.iastore, 1) := by decide +kernel
theorem dX9_keep_126 : decode cX9_keep 126 = .ok (.aload_n 0, 1) := by decide +kernel
theorem dX9_keep_127 : decode cX9_keep 127 = .ok (.getfield 96, 3) := by decide +kernel
theorem dX9_keep_130 : decode cX9_keep 130 = .ok (.bipush 60, 2) := by decide +kernel
theorem dX9_keep_132 : decode cX9_keep 132 = .ok (.iload_n 1, 1) := by decide +kernel
theorem dX9_keep_133 : decode cX9_keep 133 = .ok (.imul, 1) := by decide +kernel
theorem dX9_keep_134 : decode cX9_keep 134 = .ok (.bipush 22, 2) := by decide +kernel
theorem dX9_keep_136 : decode cX9_keep 136 = .ok (.iadd, 1) := by decide +kernel
theorem dX9_keep_137 : decode cX9_keep 137 = .ok (.iload_n 2, 1) := by decide +kernel
theorem dX9_keep_138 : decode cX9_keep 138 = .ok (.iadd, 1) := by decide +kernel
theorem dX9_keep_139 : decode cX9_keep 139 = .ok (.aload_n 0, 1) := by decide +kernel
theorem dX9_keep_140 : decode cX9_keep 140 = .ok (.getfield 60, 3) := by decide +kernel
theorem dX9_keep_143 : decode cX9_keep 143 = .ok (.iload_n 2, 1) := by decide +kernel
theorem dX9_keep_144 : decode cX9_keep 144 = .ok (.iaload, 1) := by decide +kernel
theorem dX9_keep_145 : decode cX9_keep 145 = .ok (.iastore, 1) := by decide +kernel
theorem dX9_keep_146 : decode cX9_keep 146 = .ok (.aload_n 0, 1) := by decide +kernel
theorem dX9_keep_147 : decode cX9_keep 147 = .ok (.getfield 96, 3) := by decide +kernel
theorem dX9_keep_150 : decode cX9_keep 150 = .ok (.bipush 60, 2) := by decide +kernel
theorem dX9_keep_152 : decode cX9_keep 152 = .ok (.iload_n 1, 1) := by decide +kernel
theorem dX9_keep_153 : decode cX9_keep 153 = .ok (.imul, 1) := by decide +kernel
theorem dX9_keep_154 : decode cX9_keep 154 = .ok (.bipush 34, 2) := by decide +kernel
theorem dX9_keep_156 : decode cX9_keep 156 = .ok (.iadd, 1) := by decide +kernel
theorem dX9_keep_157 : decode cX9_keep 157 = .ok (.iload_n 2, 1) := by decide +kernel
theorem dX9_keep_158 : decode cX9_keep 158 = .ok (.iadd, 1) := by decide +kernel
theorem dX9_keep_159 : decode cX9_keep 159 = .ok (.aload_n 0, 1) := by decide +kernel
theorem dX9_keep_160 : decode cX9_keep 160 = .ok (.getfield 63, 3) := by decide +kernel
theorem dX9_keep_163 : decode cX9_keep 163 = .ok (.iload_n 2, 1) := by decide +kernel
theorem dX9_keep_164 : decode cX9_keep 164 = .ok (.iaload, 1) := by decide +kernel
theorem dX9_keep_165 : decode cX9_keep 165 = .ok (.iastore, 1) := by decide +kernel
theorem dX9_keep_166 : decode cX9_keep 166 = .ok (.iinc 2 1, 3) := by decide +kernel
theorem dX9_keep_169 : decode cX9_keep 169 = .ok (.goto (-79), 3) := by decide +kernel
theorem dX9_keep_172 : decode cX9_keep 172 = .ok (.aload_n 0, 1) := by decide +kernel
theorem dX9_keep_173 : decode cX9_keep 173 = .ok (.getfield 96, 3) := by decide +kernel
theorem dX9_keep_176 : decode cX9_keep 176 = .ok (.bipush 60, 2) := by decide +kernel
theorem dX9_keep_178 : decode cX9_keep 178 = .ok (.iload_n 1, 1) := by decide +kernel
theorem dX9_keep_179 : decode cX9_keep 179 = .ok (.imul, 1) := by decide +kernel
theorem dX9_keep_180 : decode cX9_keep 180 = .ok (.bipush 46, 2) := by decide +kernel
theorem dX9_keep_182 : decode cX9_keep 182 = .ok (.iadd, 1) := by decide +kernel
theorem dX9_keep_183 : decode cX9_keep 183 = .ok (.aload_n 0, 1) := by decide +kernel
theorem dX9_keep_184 : decode cX9_keep 184 = .ok (.getfield 177, 3) := by decide +kernel
theorem dX9_keep_187 : decode cX9_keep 187 = .ok (.iastore, 1) := by decide +kernel
theorem dX9_keep_188 : decode cX9_keep 188 = .ok (.aload_n 0, 1) := by decide +kernel
theorem dX9_keep_189 : decode cX9_keep 189 = .ok (.getfield 96, 3) := by decide +kernel
theorem dX9_keep_192 : decode cX9_keep 192 = .ok (.bipush 60, 2) := by decide +kernel
theorem dX9_keep_194 : decode cX9_keep 194 = .ok (.iload_n 1, 1) := by decide +kernel
theorem dX9_keep_195 : decode cX9_keep 195 = .ok (.imul, 1) := by decide +kernel
theorem dX9_keep_196 : decode cX9_keep 196 = .ok (.bipush 47, 2) := by decide +kernel
theorem dX9_keep_198 : decode cX9_keep 198 = .ok (.iadd, 1) := by decide +kernel
theorem dX9_keep_199 : decode cX9_keep 199 = .ok (.aload_n 0, 1) := by decide +kernel
theorem dX9_keep_200 : decode cX9_keep 200 = .ok (.getfield 35, 3) := by decide +kernel
theorem dX9_keep_203 : decode cX9_keep 203 = .ok (.iastore, 1) := by decide +kernel
theorem dX9_keep_204 : decode cX9_keep 204 = .ok (.aload_n 0, 1) := by decide +kernel
theorem dX9_keep_205 : decode cX9_keep 205 = .ok (.getfield 177, 3) := by decide +kernel
theorem dX9_keep_208 : decode cX9_keep 208 = .ok (.ireturn, 1) := by decide +kernel
theorem dX9_again_0 : decode cX9_again 0 = .ok (.aload_n 0, 1) := by decide +kernel
theorem dX9_again_1 : decode cX9_again 1 = .ok (.iconst 0, 1) := by decide +kernel
theorem dX9_again_2 : decode cX9_again 2 = .ok (.putfield 117, 3) := by decide +kernel
theorem dX9_again_5 : decode cX9_again 5 = .ok (.iload_n 1, 1) := by decide +kernel
theorem dX9_again_6 : decode cX9_again 6 = .ok (.i2l, 1) := by decide +kernel
theorem dX9_again_7 : decode cX9_again 7 = .ok (.lconst 0, 1) := by decide +kernel
theorem dX9_again_8 : decode cX9_again 8 = .ok (.lconst 1, 1) := by decide +kernel
theorem dX9_again_9 : decode cX9_again 9 = .ok (.invokestatic 123, 3) := by decide +kernel
theorem dX9_again_12 : decode cX9_again 12 = .ok (.ifCond .ne 5, 3) := by decide +kernel
theorem dX9_again_15 : decode cX9_again 15 = .ok (.iconst (-1), 1) := by decide +kernel
theorem dX9_again_16 : decode cX9_again 16 = .ok (.ireturn, 1) := by decide +kernel
theorem dX9_again_17 : decode cX9_again 17 = .ok (.aload_n 0, 1) := by decide +kernel
theorem dX9_again_18 : decode cX9_again 18 = .ok (.getfield 99, 3) := by decide +kernel
theorem dX9_again_21 : decode cX9_again 21 = .ok (.iload_n 1, 1) := by decide +kernel
theorem dX9_again_22 : decode cX9_again 22 = .ok (.baload, 1) := by decide +kernel
theorem dX9_again_23 : decode cX9_again 23 = .ok (.ifCond .ne 6, 3) := by decide +kernel
theorem dX9_again_26 : decode cX9_again 26 = .ok (.bipush (-3), 2) := by decide +kernel
theorem dX9_again_28 : decode cX9_again 28 = .ok (.ireturn, 1) := by decide +kernel
theorem dX9_again_29 : decode cX9_again 29 = .ok (.iconst 0, 1) := by decide +kernel
theorem dX9_again_30 : decode cX9_again 30 = .ok (.istore_n 2, 1) := by decide +kernel
theorem dX9_again_31 : decode cX9_again 31 = .ok (.iload_n 2, 1) := by decide +kernel
theorem dX9_again_32 : decode cX9_again 32 = .ok (.bipush 6, 2) := by decide +kernel
theorem dX9_again_34 : decode cX9_again 34 = .ok (.if_icmp .ge 26, 3) := by decide +kernel
theorem dX9_again_37 : decode cX9_again 37 = .ok (.aload_n 0, 1) := by decide +kernel
theorem dX9_again_38 : decode cX9_again 38 = .ok (.getfield 13, 3) := by decide +kernel
theorem dX9_again_41 : decode cX9_again 41 = .ok (.iload_n 2, 1) := by decide +kernel
theorem dX9_again_42 : decode cX9_again 42 = .ok (.aload_n 0, 1) := by decide +kernel
theorem dX9_again_43 : decode cX9_again 43 = .ok (.getfield 96, 3) := by decide +kernel
theorem dX9_again_46 : decode cX9_again 46 = .ok (.bipush 60, 2) := by decide +kernel
theorem dX9_again_48 : decode cX9_again 48 = .ok (.iload_n 1, 1) := by decide +kernel
theorem dX9_again_49 : decode cX9_again 49 = .ok (.imul, 1) := by decide +kernel
theorem dX9_again_50 : decode cX9_again 50 = .ok (.iload_n 2, 1) := by decide +kernel
theorem dX9_again_51 : decode cX9_again 51 = .ok (.iadd, 1) := by decide +kernel
theorem dX9_again_52 : decode cX9_again 52 = .ok (.iaload, 1) := by decide +kernel
theorem dX9_again_53 : decode cX9_again 53 = .ok (.iastore, 1) := by decide +kernel
theorem dX9_again_54 : decode cX9_again 54 = .ok (.iinc 2 1, 3) := by decide +kernel
theorem dX9_again_57 : decode cX9_again 57 = .ok (.goto (-26), 3) := by decide +kernel
theorem dX9_again_60 : decode cX9_again 60 = .ok (.iconst 0, 1) := by decide +kernel
theorem dX9_again_61 : decode cX9_again 61 = .ok (.istore_n 2, 1) := by decide +kernel
theorem dX9_again_62 : decode cX9_again 62 = .ok (.iload_n 2, 1) := by decide +kernel
theorem dX9_again_63 : decode cX9_again 63 = .ok (.iconst 4, 1) := by decide +kernel
theorem dX9_again_64 : decode cX9_again 64 = .ok (.if_icmp .ge 29, 3) := by decide +kernel
theorem dX9_again_67 : decode cX9_again 67 = .ok (.aload_n 0, 1) := by decide +kernel
theorem dX9_again_68 : decode cX9_again 68 = .ok (.getfield 22, 3) := by decide +kernel
theorem dX9_again_71 : decode cX9_again 71 = .ok (.iload_n 2, 1) := by decide +kernel
theorem dX9_again_72 : decode cX9_again 72 = .ok (.aload_n 0, 1) := by decide +kernel
theorem dX9_again_73 : decode cX9_again 73 = .ok (.getfield 96, 3) := by decide +kernel
theorem dX9_again_76 : decode cX9_again 76 = .ok (.bipush 60, 2) := by decide +kernel
theorem dX9_again_78 : decode cX9_again 78 = .ok (.iload_n 1, 1) := by decide +kernel
theorem dX9_again_79 : decode cX9_again 79 = .ok (.imul, 1) := by decide +kernel
theorem dX9_again_80 : decode cX9_again 80 = .ok (.bipush 6, 2) := by decide +kernel
theorem dX9_again_82 : decode cX9_again 82 = .ok (.iadd, 1) := by decide +kernel
theorem dX9_again_83 : decode cX9_again 83 = .ok (.iload_n 2, 1) := by decide +kernel
theorem dX9_again_84 : decode cX9_again 84 = .ok (.iadd, 1) := by decide +kernel
theorem dX9_again_85 : decode cX9_again 85 = .ok (.iaload, 1) := by decide +kernel
theorem dX9_again_86 : decode cX9_again 86 = .ok (.iastore, 1) := by decide +kernel
theorem dX9_again_87 : decode cX9_again 87 = .ok (.iinc 2 1, 3) := by decide +kernel
theorem dX9_again_90 : decode cX9_again 90 = .ok (.goto (-28), 3) := by decide +kernel
theorem dX9_again_93 : decode cX9_again 93 = .ok (.iconst 0, 1) := by decide +kernel
theorem dX9_again_94 : decode cX9_again 94 = .ok (.istore_n 2, 1) := by decide +kernel
theorem dX9_again_95 : decode cX9_again 95 = .ok (.iload_n 2, 1) := by decide +kernel
theorem dX9_again_96 : decode cX9_again 96 = .ok (.bipush 12, 2) := by decide +kernel
theorem dX9_again_98 : decode cX9_again 98 = .ok (.if_icmp .ge 95, 3) := by decide +kernel
theorem dX9_again_101 : decode cX9_again 101 = .ok (.aload_n 0, 1) := by decide +kernel
theorem dX9_again_102 : decode cX9_again 102 = .ok (.getfield 54, 3) := by decide +kernel
theorem dX9_again_105 : decode cX9_again 105 = .ok (.iload_n 2, 1) := by decide +kernel
theorem dX9_again_106 : decode cX9_again 106 = .ok (.aload_n 0, 1) := by decide +kernel
theorem dX9_again_107 : decode cX9_again 107 = .ok (.getfield 96, 3) := by decide +kernel
theorem dX9_again_110 : decode cX9_again 110 = .ok (.bipush 60, 2) := by decide +kernel
theorem dX9_again_112 : decode cX9_again 112 = .ok (.iload_n 1, 1) := by decide +kernel
theorem dX9_again_113 : decode cX9_again 113 = .ok (.imul, 1) := by decide +kernel
theorem dX9_again_114 : decode cX9_again 114 = .ok (.bipush 10, 2) := by decide +kernel
theorem dX9_again_116 : decode cX9_again 116 = .ok (.iadd, 1) := by decide +kernel
theorem dX9_again_117 : decode cX9_again 117 = .ok (.iload_n 2, 1) := by decide +kernel
theorem dX9_again_118 : decode cX9_again 118 = .ok (.iadd, 1) := by decide +kernel
theorem dX9_again_119 : decode cX9_again 119 = .ok (.iaload, 1) := by decide +kernel
theorem dX9_again_120 : decode cX9_again 120 = .ok (.bipush 10, 2) := by decide +kernel
theorem dX9_again_122 : decode cX9_again 122 = .ok (.idiv, 1) := by decide +kernel
theorem dX9_again_123 : decode cX9_again 123 = .ok (.iastore, 1) := by decide +kernel
theorem dX9_again_124 : decode cX9_again 124 = .ok (.aload_n 0, 1) := by decide +kernel
theorem dX9_again_125 : decode cX9_again 125 = .ok (.getfield 57, 3) := by decide +kernel
theorem dX9_again_128 : decode cX9_again 128 = .ok (.iload_n 2, 1) := by decide +kernel
theorem dX9_again_129 : decode cX9_again 129 = .ok (.aload_n 0, 1) := by decide +kernel
theorem dX9_again_130 : decode cX9_again 130 = .ok (.getfield 96, 3) := by decide +kernel
theorem dX9_again_133 : decode cX9_again 133 = .ok (.bipush 60, 2) := by decide +kernel
theorem dX9_again_135 : decode cX9_again 135 = .ok (.iload_n 1, 1) := by decide +kernel
theorem dX9_again_136 : decode cX9_again 136 = .ok (.imul, 1) := by decide +kernel
theorem dX9_again_137 : decode cX9_again 137 = .ok (.bipush 10, 2) := by decide +kernel
theorem dX9_again_139 : decode cX9_again 139 = .ok (.iadd, 1) := by decide +kernel
theorem dX9_again_140 : decode cX9_again 140 = .ok (.iload_n 2, 1) := by decide +kernel
theorem dX9_again_141 : decode cX9_again 141 = .ok (.iadd, 1) := by decide +kernel
theorem dX9_again_142 : decode cX9_again 142 = .ok (.iaload, 1) := by decide +kernel
theorem dX9_again_143 : decode cX9_again 143 = .ok (.bipush 10, 2) := by decide +kernel
theorem dX9_again_145 : decode cX9_again 145 = .ok (.irem, 1) := by decide +kernel
theorem dX9_again_146 : decode cX9_again 146 = .ok (.iastore, 1) := by decide +kernel
theorem dX9_again_147 : decode cX9_again 147 = .ok (.aload_n 0, 1) := by decide +kernel
theorem dX9_again_148 : decode cX9_again 148 = .ok (.getfield 60, 3) := by decide +kernel
theorem dX9_again_151 : decode cX9_again 151 = .ok (.iload_n 2, 1) := by decide +kernel
theorem dX9_again_152 : decode cX9_again 152 = .ok (.aload_n 0, 1) := by decide +kernel
theorem dX9_again_153 : decode cX9_again 153 = .ok (.getfield 96, 3) := by decide +kernel
theorem dX9_again_156 : decode cX9_again 156 = .ok (.bipush 60, 2) := by decide +kernel
theorem dX9_again_158 : decode cX9_again 158 = .ok (.iload_n 1, 1) := by decide +kernel
theorem dX9_again_159 : decode cX9_again 159 = .ok (.imul, 1) := by decide +kernel
theorem dX9_again_160 : decode cX9_again 160 = .ok (.bipush 22, 2) := by decide +kernel
theorem dX9_again_162 : decode cX9_again 162 = .ok (.iadd, 1) := by decide +kernel
theorem dX9_again_163 : decode cX9_again 163 = .ok (.iload_n 2, 1) := by decide +kernel
theorem dX9_again_164 : decode cX9_again 164 = .ok (.iadd, 1) := by decide +kernel
theorem dX9_again_165 : decode cX9_again 165 = .ok (.iaload, 1) := by decide +kernel
theorem dX9_again_166 : decode cX9_again 166 = .ok (.iastore, 1) := by decide +kernel
theorem dX9_again_167 : decode cX9_again 167 = .ok (.aload_n 0, 1) := by decide +kernel
theorem dX9_again_168 : decode cX9_again 168 = .ok (.getfield 63, 3) := by decide +kernel
theorem dX9_again_171 : decode cX9_again 171 = .ok (.iload_n 2, 1) := by decide +kernel
theorem dX9_again_172 : decode cX9_again 172 = .ok (.aload_n 0, 1) := by decide +kernel
theorem dX9_again_173 : decode cX9_again 173 = .ok (.getfield 96, 3) := by decide +kernel
theorem dX9_again_176 : decode cX9_again 176 = .ok (.bipush 60, 2) := by decide +kernel
theorem dX9_again_178 : decode cX9_again 178 = .ok (.iload_n 1, 1) := by decide +kernel
theorem dX9_again_179 : decode cX9_again 179 = .ok (.imul, 1) := by decide +kernel
theorem dX9_again_180 : decode cX9_again 180 = .ok (.bipush 34, 2) := by decide +kernel
theorem dX9_again_182 : decode cX9_again 182 = .ok (.iadd, 1) := by decide +kernel
theorem dX9_again_183 : decode cX9_again 183 = .ok (.iload_n 2, 1) := by decide +kernel
theorem dX9_again_184 : decode cX9_again 184 = .ok (.iadd, 1) := by decide +kernel
theorem dX9_again_185 : decode cX9_again 185 = .ok (.iaload, 1) := by decide +kernel
theorem dX9_again_186 : decode cX9_again 186 = .ok (.iastore, 1) := by decide +kernel
theorem dX9_again_187 : decode cX9_again 187 = .ok (.iinc 2 1, 3) := by decide +kernel
theorem dX9_again_190 : decode cX9_again 190 = .ok (.goto (-95), 3) := by decide +kernel
theorem dX9_again_193 : decode cX9_again 193 = .ok (.aload_n 0, 1) := by decide +kernel
theorem dX9_again_194 : decode cX9_again 194 = .ok (.aload_n 0, 1) := by decide +kernel
theorem dX9_again_195 : decode cX9_again 195 = .ok (.getfield 96, 3) := by decide +kernel
theorem dX9_again_198 : decode cX9_again 198 = .ok (.bipush 60, 2) := by decide +kernel
theorem dX9_again_200 : decode cX9_again 200 = .ok (.iload_n 1, 1) := by decide +kernel
theorem dX9_again_201 : decode cX9_again 201 = .ok (.imul, 1) := by decide +kernel
theorem dX9_again_202 : decode cX9_again 202 = .ok (.bipush 46, 2) := by decide +kernel
theorem dX9_again_204 : decode cX9_again 204 = .ok (.iadd, 1) := by decide +kernel
theorem dX9_again_205 : decode cX9_again 205 = .ok (.iaload, 1) := by decide +kernel
theorem dX9_again_206 : decode cX9_again 206 = .ok (.putfield 177, 3) := by decide +kernel
theorem dX9_again_209 : decode cX9_again 209 = .ok (.aload_n 0, 1) := by decide +kernel
theorem dX9_again_210 : decode cX9_again 210 = .ok (.aload_n 0, 1) := by decide +kernel
theorem dX9_again_211 : decode cX9_again 211 = .ok (.getfield 96, 3) := by decide +kernel
theorem dX9_again_214 : decode cX9_again 214 = .ok (.bipush 60, 2) := by decide +kernel
theorem dX9_again_216 : decode cX9_again 216 = .ok (.iload_n 1, 1) := by decide +kernel
theorem dX9_again_217 : decode cX9_again 217 = .ok (.imul, 1) := by decide +kernel
theorem dX9_again_218 : decode cX9_again 218 = .ok (.bipush 47, 2) := by decide +kernel
theorem dX9_again_220 : decode cX9_again 220 = .ok (.iadd, 1) := by decide +kernel
theorem dX9_again_221 : decode cX9_again 221 = .ok (.iaload, 1) := by decide +kernel
theorem dX9_again_222 : decode cX9_again 222 = .ok (.putfield 35, 3) := by decide +kernel
theorem dX9_again_225 : decode cX9_again 225 = .ok (.aload_n 0, 1) := by decide +kernel
theorem dX9_again_226 : decode cX9_again 226 = .ok (.getfield 177, 3) := by decide +kernel
theorem dX9_again_229 : decode cX9_again 229 = .ok (.ireturn, 1) := by decide +kernel
theorem dX9_count_0 : decode cX9_count 0 = .ok (.aload_n 0, 1) := by decide +kernel
theorem dX9_count_1 : decode cX9_count 1 = .ok (.iconst 0, 1) := by decide +kernel
theorem dX9_count_2 : decode cX9_count 2 = .ok (.putfield 117, 3) := by decide +kernel
theorem dX9_count_5 : decode cX9_count 5 = .ok (.iload_n 1, 1) := by decide +kernel
theorem dX9_count_6 : decode cX9_count 6 = .ok (.tableswitch 77 0 6 #[42, 47, 52, 57, 62, 67, 72], 42) := by decide +kernel
theorem dX9_count_48 : decode cX9_count 48 = .ok (.aload_n 0, 1) := by decide +kernel
theorem dX9_count_49 : decode cX9_count 49 = .ok (.getfield 120, 3) := by decide +kernel
theorem dX9_count_52 : decode cX9_count 52 = .ok (.ireturn, 1) := by decide +kernel
theorem dX9_count_53 : decode cX9_count 53 = .ok (.aload_n 0, 1) := by decide +kernel
theorem dX9_count_54 : decode cX9_count 54 = .ok (.getfield 127, 3) := by decide +kernel
theorem dX9_count_57 : decode cX9_count 57 = .ok (.ireturn, 1) := by decide +kernel
theorem dX9_count_58 : decode cX9_count 58 = .ok (.aload_n 0, 1) := by decide +kernel
theorem dX9_count_59 : decode cX9_count 59 = .ok (.getfield 177, 3) := by decide +kernel
theorem dX9_count_62 : decode cX9_count 62 = .ok (.ireturn, 1) := by decide +kernel
theorem dX9_count_63 : decode cX9_count 63 = .ok (.aload_n 0, 1) := by decide +kernel
theorem dX9_count_64 : decode cX9_count 64 = .ok (.getfield 224, 3) := by decide +kernel
theorem dX9_count_67 : decode cX9_count 67 = .ok (.ireturn, 1) := by decide +kernel
theorem dX9_count_68 : decode cX9_count 68 = .ok (.aload_n 0, 1) := by decide +kernel
theorem dX9_count_69 : decode cX9_count 69 = .ok (.getfield 254, 3) := by decide +kernel
theorem dX9_count_72 : decode cX9_count 72 = .ok (.ireturn, 1) := by decide +kernel
theorem dX9_count_73 : decode cX9_count 73 = .ok (.aload_n 0, 1) := by decide +kernel
theorem dX9_count_74 : decode cX9_count 74 = .ok (.getfield 35, 3) := by decide +kernel
theorem dX9_count_77 : decode cX9_count 77 = .ok (.ireturn, 1) := by decide +kernel
theorem dX9_count_78 : decode cX9_count 78 = .ok (.aload_n 0, 1) := by decide +kernel
theorem dX9_count_79 : decode cX9_count 79 = .ok (.getfield 132, 3) := by decide +kernel
theorem dX9_count_82 : decode cX9_count 82 = .ok (.ireturn, 1) := by decide +kernel
theorem dX9_count_83 : decode cX9_count 83 = .ok (.bipush (-2), 2) := by decide +kernel
theorem dX9_count_85 : decode cX9_count 85 = .ok (.ireturn, 1) := by decide +kernel
theorem dJ6_compare_7cf53_0 : decode cJ6_compare_7cf53 0 = .ok (.iload_n 0, 1) := by decide +kernel
theorem dJ6_compare_7cf53_1 : decode cJ6_compare_7cf53 1 = .ok (.iload_n 1, 1) := by decide +kernel
theorem dJ6_compare_7cf53_2 : decode cJ6_compare_7cf53 2 = .ok (.if_icmp .ge 7, 3) := by decide +kernel
theorem dJ6_compare_7cf53_5 : decode cJ6_compare_7cf53 5 = .ok (.iconst (-1), 1) := by decide +kernel
theorem dJ6_compare_7cf53_6 : decode cJ6_compare_7cf53 6 = .ok (.goto 13, 3) := by decide +kernel
theorem dJ6_compare_7cf53_9 : decode cJ6_compare_7cf53 9 = .ok (.iload_n 0, 1) := by decide +kernel
theorem dJ6_compare_7cf53_10 : decode cJ6_compare_7cf53 10 = .ok (.iload_n 1, 1) := by decide +kernel
theorem dJ6_compare_7cf53_11 : decode cJ6_compare_7cf53 11 = .ok (.if_icmp .ne 7, 3) := by decide +kernel
theorem dJ6_compare_7cf53_14 : decode cJ6_compare_7cf53 14 = .ok (.iconst 0, 1) := by decide +kernel
theorem dJ6_compare_7cf53_15 : decode cJ6_compare_7cf53 15 = .ok (.goto 4, 3) := by decide +kernel
theorem dJ6_compare_7cf53_18 : decode cJ6_compare_7cf53 18 = .ok (.iconst 1, 1) := by decide +kernel
theorem dJ6_compare_7cf53_19 : decode cJ6_compare_7cf53 19 = .ok (.ireturn, 1) := by decide +kernel
theorem dJ6_bitCount_0f7a4_0 : decode cJ6_bitCount_0f7a4 0 = .ok (.iload_n 0, 1) := by decide +kernel
theorem dJ6_bitCount_0f7a4_1 : decode cJ6_bitCount_0f7a4 1 = .ok (.iload_n 0, 1) := by decide +kernel
theorem dJ6_bitCount_0f7a4_2 : decode cJ6_bitCount_0f7a4 2 = .ok (.iconst 1, 1) := by decide +kernel
theorem dJ6_bitCount_0f7a4_3 : decode cJ6_bitCount_0f7a4 3 = .ok (.iushr, 1) := by decide +kernel
theorem dJ6_bitCount_0f7a4_4 : decode cJ6_bitCount_0f7a4 4 = .ok (.ldc_w 265, 3) := by decide +kernel
theorem dJ6_bitCount_0f7a4_7 : decode cJ6_bitCount_0f7a4 7 = .ok (.iand, 1) := by decide +kernel
theorem dJ6_bitCount_0f7a4_8 : decode cJ6_bitCount_0f7a4 8 = .ok (.isub, 1) := by decide +kernel
theorem dJ6_bitCount_0f7a4_9 : decode cJ6_bitCount_0f7a4 9 = .ok (.istore_n 0, 1) := by decide +kernel
theorem dJ6_bitCount_0f7a4_10 : decode cJ6_bitCount_0f7a4 10 = .ok (.iload_n 0, 1) := by decide +kernel
theorem dJ6_bitCount_0f7a4_11 : decode cJ6_bitCount_0f7a4 11 = .ok (.ldc_w 266, 3) := by decide +kernel
theorem dJ6_bitCount_0f7a4_14 : decode cJ6_bitCount_0f7a4 14 = .ok (.iand, 1) := by decide +kernel
theorem dJ6_bitCount_0f7a4_15 : decode cJ6_bitCount_0f7a4 15 = .ok (.iload_n 0, 1) := by decide +kernel
theorem dJ6_bitCount_0f7a4_16 : decode cJ6_bitCount_0f7a4 16 = .ok (.iconst 2, 1) := by decide +kernel
theorem dJ6_bitCount_0f7a4_17 : decode cJ6_bitCount_0f7a4 17 = .ok (.iushr, 1) := by decide +kernel
theorem dJ6_bitCount_0f7a4_18 : decode cJ6_bitCount_0f7a4 18 = .ok (.ldc_w 266, 3) := by decide +kernel
theorem dJ6_bitCount_0f7a4_21 : decode cJ6_bitCount_0f7a4 21 = .ok (.iand, 1) := by decide +kernel
theorem dJ6_bitCount_0f7a4_22 : decode cJ6_bitCount_0f7a4 22 = .ok (.iadd, 1) := by decide +kernel
theorem dJ6_bitCount_0f7a4_23 : decode cJ6_bitCount_0f7a4 23 = .ok (.istore_n 0, 1) := by decide +kernel
theorem dJ6_bitCount_0f7a4_24 : decode cJ6_bitCount_0f7a4 24 = .ok (.iload_n 0, 1) := by decide +kernel
theorem dJ6_bitCount_0f7a4_25 : decode cJ6_bitCount_0f7a4 25 = .ok (.iload_n 0, 1) := by decide +kernel
theorem dJ6_bitCount_0f7a4_26 : decode cJ6_bitCount_0f7a4 26 = .ok (.iconst 4, 1) := by decide +kernel
theorem dJ6_bitCount_0f7a4_27 : decode cJ6_bitCount_0f7a4 27 = .ok (.iushr, 1) := by decide +kernel
theorem dJ6_bitCount_0f7a4_28 : decode cJ6_bitCount_0f7a4 28 = .ok (.iadd, 1) := by decide +kernel
theorem dJ6_bitCount_0f7a4_29 : decode cJ6_bitCount_0f7a4 29 = .ok (.ldc_w 267, 3) := by decide +kernel
theorem dJ6_bitCount_0f7a4_32 : decode cJ6_bitCount_0f7a4 32 = .ok (.iand, 1) := by decide +kernel
theorem dJ6_bitCount_0f7a4_33 : decode cJ6_bitCount_0f7a4 33 = .ok (.istore_n 0, 1) := by decide +kernel
theorem dJ6_bitCount_0f7a4_34 : decode cJ6_bitCount_0f7a4 34 = .ok (.iload_n 0, 1) := by decide +kernel
theorem dJ6_bitCount_0f7a4_35 : decode cJ6_bitCount_0f7a4 35 = .ok (.iload_n 0, 1) := by decide +kernel
theorem dJ6_bitCount_0f7a4_36 : decode cJ6_bitCount_0f7a4 36 = .ok (.bipush 8, 2) := by decide +kernel
theorem dJ6_bitCount_0f7a4_38 : decode cJ6_bitCount_0f7a4 38 = .ok (.iushr, 1) := by decide +kernel
theorem dJ6_bitCount_0f7a4_39 : decode cJ6_bitCount_0f7a4 39 = .ok (.iadd, 1) := by decide +kernel
theorem dJ6_bitCount_0f7a4_40 : decode cJ6_bitCount_0f7a4 40 = .ok (.istore_n 0, 1) := by decide +kernel
theorem dJ6_bitCount_0f7a4_41 : decode cJ6_bitCount_0f7a4 41 = .ok (.iload_n 0, 1) := by decide +kernel
theorem dJ6_bitCount_0f7a4_42 : decode cJ6_bitCount_0f7a4 42 = .ok (.iload_n 0, 1) := by decide +kernel
theorem dJ6_bitCount_0f7a4_43 : decode cJ6_bitCount_0f7a4 43 = .ok (.bipush 16, 2) := by decide +kernel
theorem dJ6_bitCount_0f7a4_45 : decode cJ6_bitCount_0f7a4 45 = .ok (.iushr, 1) := by decide +kernel
theorem dJ6_bitCount_0f7a4_46 : decode cJ6_bitCount_0f7a4 46 = .ok (.iadd, 1) := by decide +kernel
theorem dJ6_bitCount_0f7a4_47 : decode cJ6_bitCount_0f7a4 47 = .ok (.istore_n 0, 1) := by decide +kernel
theorem dJ6_bitCount_0f7a4_48 : decode cJ6_bitCount_0f7a4 48 = .ok (.iload_n 0, 1) := by decide +kernel
theorem dJ6_bitCount_0f7a4_49 : decode cJ6_bitCount_0f7a4 49 = .ok (.bipush 63, 2) := by decide +kernel
theorem dJ6_bitCount_0f7a4_51 : decode cJ6_bitCount_0f7a4 51 = .ok (.iand, 1) := by decide +kernel
theorem dJ6_bitCount_0f7a4_52 : decode cJ6_bitCount_0f7a4 52 = .ok (.ireturn, 1) := by decide +kernel
theorem dJ9_max_7cf53_0 : decode cJ9_max_7cf53 0 = .ok (.iload_n 0, 1) := by decide +kernel
theorem dJ9_max_7cf53_1 : decode cJ9_max_7cf53 1 = .ok (.iload_n 1, 1) := by decide +kernel
theorem dJ9_max_7cf53_2 : decode cJ9_max_7cf53 2 = .ok (.if_icmp .lt 7, 3) := by decide +kernel
theorem dJ9_max_7cf53_5 : decode cJ9_max_7cf53 5 = .ok (.iload_n 0, 1) := by decide +kernel
theorem dJ9_max_7cf53_6 : decode cJ9_max_7cf53 6 = .ok (.goto 4, 3) := by decide +kernel
theorem dJ9_max_7cf53_9 : decode cJ9_max_7cf53 9 = .ok (.iload_n 1, 1) := by decide +kernel
theorem dJ9_max_7cf53_10 : decode cJ9_max_7cf53 10 = .ok (.ireturn, 1) := by decide +kernel
theorem dJ9_min_7cf53_0 : decode cJ9_min_7cf53 0 = .ok (.iload_n 0, 1) := by decide +kernel
theorem dJ9_min_7cf53_1 : decode cJ9_min_7cf53 1 = .ok (.iload_n 1, 1) := by decide +kernel
theorem dJ9_min_7cf53_2 : decode cJ9_min_7cf53 2 = .ok (.if_icmp .gt 7, 3) := by decide +kernel
theorem dJ9_min_7cf53_5 : decode cJ9_min_7cf53 5 = .ok (.iload_n 0, 1) := by decide +kernel
theorem dJ9_min_7cf53_6 : decode cJ9_min_7cf53 6 = .ok (.goto 4, 3) := by decide +kernel
theorem dJ9_min_7cf53_9 : decode cJ9_min_7cf53 9 = .ok (.iload_n 1, 1) := by decide +kernel
theorem dJ9_min_7cf53_10 : decode cJ9_min_7cf53 10 = .ok (.ireturn, 1) := by decide +kernel
theorem dJ7_fill_53178_0 : decode cJ7_fill_53178 0 = .ok (.iconst 0, 1) := by decide +kernel
theorem dJ7_fill_53178_1 : decode cJ7_fill_53178 1 = .ok (.istore_n 2, 1) := by decide +kernel
theorem dJ7_fill_53178_2 : decode cJ7_fill_53178 2 = .ok (.aload_n 0, 1) := by decide +kernel
theorem dJ7_fill_53178_3 : decode cJ7_fill_53178 3 = .ok (.arraylength, 1) := by decide +kernel
theorem dJ7_fill_53178_4 : decode cJ7_fill_53178 4 = .ok (.istore_n 3, 1) := by decide +kernel
theorem dJ7_fill_53178_5 : decode cJ7_fill_53178 5 = .ok (.iload_n 2, 1) := by decide +kernel
theorem dJ7_fill_53178_6 : decode cJ7_fill_53178 6 = .ok (.iload_n 3, 1) := by decide +kernel
theorem dJ7_fill_53178_7 : decode cJ7_fill_53178 7 = .ok (.if_icmp .ge 13, 3) := by decide +kernel
theorem dJ7_fill_53178_10 : decode cJ7_fill_53178 10 = .ok (.aload_n 0, 1) := by decide +kernel
theorem dJ7_fill_53178_11 : decode cJ7_fill_53178 11 = .ok (.iload_n 2, 1) := by decide +kernel
theorem dJ7_fill_53178_12 : decode cJ7_fill_53178 12 = .ok (.iload_n 1, 1) := by decide +kernel
theorem dJ7_fill_53178_13 : decode cJ7_fill_53178 13 = .ok (.iastore, 1) := by decide +kernel
theorem dJ7_fill_53178_14 : decode cJ7_fill_53178 14 = .ok (.iinc 2 1, 3) := by decide +kernel
theorem dJ7_fill_53178_17 : decode cJ7_fill_53178 17 = .ok (.goto (-12), 3) := by decide +kernel
theorem dJ7_fill_53178_20 : decode cJ7_fill_53178 20 = .ok (.return_, 1) := by decide +kernel
end
section
theorem dL_law_0 : decode cL_law 0 = .ok (.new 7, 3) := by decide +kernel
theorem dL_law_3 : decode cL_law 3 = .ok (.dup, 1) := by decide +kernel
theorem dL_law_4 : decode cL_law 4 = .ok (.invokespecial 9, 3) := by decide +kernel
theorem dL_law_7 : decode cL_law 7 = .ok (.astore_n 1, 1) := by decide +kernel
theorem dL_law_8 : decode cL_law 8 = .ok (.new 10, 3) := by decide +kernel
theorem dL_law_11 : decode cL_law 11 = .ok (.dup, 1) := by decide +kernel
theorem dL_law_12 : decode cL_law 12 = .ok (.invokespecial 12, 3) := by decide +kernel
theorem dL_law_15 : decode cL_law 15 = .ok (.astore_n 2, 1) := by decide +kernel
theorem dL_law_16 : decode cL_law 16 = .ok (.iconst 0, 1) := by decide +kernel
theorem dL_law_17 : decode cL_law 17 = .ok (.istore_n 3, 1) := by decide +kernel
theorem dL_law_18 : decode cL_law 18 = .ok (.iload_n 3, 1) := by decide +kernel
theorem dL_law_19 : decode cL_law 19 = .ok (.aload_n 0, 1) := by decide +kernel
theorem dL_law_20 : decode cL_law 20 = .ok (.arraylength, 1) := by decide +kernel
theorem dL_law_21 : decode cL_law 21 = .ok (.bipush 6, 2) := by decide +kernel
theorem dL_law_23 : decode cL_law 23 = .ok (.isub, 1) := by decide +kernel
theorem dL_law_24 : decode cL_law 24 = .ok (.if_icmp .gt 1319, 3) := by decide +kernel
theorem dL_law_27 : decode cL_law 27 = .ok (.aload_n 0, 1) := by decide +kernel
theorem dL_law_28 : decode cL_law 28 = .ok (.iload_n 3, 1) := by decide +kernel
theorem dL_law_29 : decode cL_law 29 = .ok (.iaload, 1) := by decide +kernel
theorem dL_law_30 : decode cL_law 30 = .ok (.bipush 63, 2) := by decide +kernel
theorem dL_law_32 : decode cL_law 32 = .ok (.iand, 1) := by decide +kernel
theorem dL_law_33 : decode cL_law 33 = .ok (.tableswitch 1304 0 33 #[151, 214, 227, 240, 253, 286, 319, 352, 385, 408, 451, 464, 497, 556, 589, 632, 695, 708, 758, 791, 824, 867, 900, 949, 972, 985, 1044, 1097, 1160, 1173, 1186, 1235, 1258, 1281], 151) := by decide +kernel
theorem dL_law_184 : decode cL_law 184 = .ok (.aload_n 1, 1) := by decide +kernel
theorem dL_law_185 : decode cL_law 185 = .ok (.aload_n 0, 1) := by decide +kernel
theorem dL_law_186 : decode cL_law 186 = .ok (.iload_n 3, 1) := by decide +kernel
theorem dL_law_187 : decode cL_law 187 = .ok (.iconst 1, 1) := by decide +kernel
theorem dL_law_188 : decode cL_law 188 = .ok (.iadd, 1) := by decide +kernel
theorem dL_law_189 : decode cL_law 189 = .ok (.iaload, 1) := by decide +kernel
theorem dL_law_190 : decode cL_law 190 = .ok (.aload_n 0, 1) := by decide +kernel
theorem dL_law_191 : decode cL_law 191 = .ok (.iload_n 3, 1) := by decide +kernel
theorem dL_law_192 : decode cL_law 192 = .ok (.iconst 2, 1) := by decide +kernel
theorem dL_law_193 : decode cL_law 193 = .ok (.iadd, 1) := by decide +kernel
theorem dL_law_194 : decode cL_law 194 = .ok (.iaload, 1) := by decide +kernel
theorem dL_law_195 : decode cL_law 195 = .ok (.i2l, 1) := by decide +kernel
theorem dL_law_196 : decode cL_law 196 = .ok (.bipush 32, 2) := by decide +kernel
theorem dL_law_198 : decode cL_law 198 = .ok (.lshl, 1) := by decide +kernel
theorem dL_law_199 : decode cL_law 199 = .ok (.aload_n 0, 1) := by decide +kernel
theorem dL_law_200 : decode cL_law 200 = .ok (.iload_n 3, 1) := by decide +kernel
theorem dL_law_201 : decode cL_law 201 = .ok (.iconst 3, 1) := by decide +kernel
theorem dL_law_202 : decode cL_law 202 = .ok (.iadd, 1) := by decide +kernel
theorem dL_law_203 : decode cL_law 203 = .ok (.iaload, 1) := by decide +kernel
theorem dL_law_204 : decode cL_law 204 = .ok (.i2l, 1) := by decide +kernel
theorem dL_law_205 : decode cL_law 205 = .ok (.ldc2_w 13, 3) := by decide +kernel
theorem dL_law_208 : decode cL_law 208 = .ok (.land, 1) := by decide +kernel
theorem dL_law_209 : decode cL_law 209 = .ok (.lor, 1) := by decide +kernel
theorem dL_law_210 : decode cL_law 210 = .ok (.invokevirtual 15, 3) := by decide +kernel
theorem dL_law_213 : decode cL_law 213 = .ok (.aload_n 2, 1) := by decide +kernel
theorem dL_law_214 : decode cL_law 214 = .ok (.aload_n 0, 1) := by decide +kernel
theorem dL_law_215 : decode cL_law 215 = .ok (.iload_n 3, 1) := by decide +kernel
theorem dL_law_216 : decode cL_law 216 = .ok (.iconst 1, 1) := by decide +kernel
theorem dL_law_217 : decode cL_law 217 = .ok (.iadd, 1) := by decide +kernel
theorem dL_law_218 : decode cL_law 218 = .ok (.iaload, 1) := by decide +kernel
theorem dL_law_219 : decode cL_law 219 = .ok (.aload_n 0, 1) := by decide +kernel
theorem dL_law_220 : decode cL_law 220 = .ok (.iload_n 3, 1) := by decide +kernel
theorem dL_law_221 : decode cL_law 221 = .ok (.iconst 2, 1) := by decide +kernel
theorem dL_law_222 : decode cL_law 222 = .ok (.iadd, 1) := by decide +kernel
theorem dL_law_223 : decode cL_law 223 = .ok (.iaload, 1) := by decide +kernel
theorem dL_law_224 : decode cL_law 224 = .ok (.i2l, 1) := by decide +kernel
theorem dL_law_225 : decode cL_law 225 = .ok (.bipush 32, 2) := by decide +kernel
theorem dL_law_227 : decode cL_law 227 = .ok (.lshl, 1) := by decide +kernel
theorem dL_law_228 : decode cL_law 228 = .ok (.aload_n 0, 1) := by decide +kernel
theorem dL_law_229 : decode cL_law 229 = .ok (.iload_n 3, 1) := by decide +kernel
theorem dL_law_230 : decode cL_law 230 = .ok (.iconst 3, 1) := by decide +kernel
theorem dL_law_231 : decode cL_law 231 = .ok (.iadd, 1) := by decide +kernel
theorem dL_law_232 : decode cL_law 232 = .ok (.iaload, 1) := by decide +kernel
theorem dL_law_233 : decode cL_law 233 = .ok (.i2l, 1) := by decide +kernel
theorem dL_law_234 : decode cL_law 234 = .ok (.ldc2_w 13, 3) := by decide +kernel
theorem dL_law_237 : decode cL_law 237 = .ok (.land, 1) := by decide +kernel
theorem dL_law_238 : decode cL_law 238 = .ok (.lor, 1) := by decide +kernel
theorem dL_law_239 : decode cL_law 239 = .ok (.invokevirtual 19, 3) := by decide +kernel
theorem dL_law_242 : decode cL_law 242 = .ok (.if_icmp .eq 1095, 3) := by decide +kernel
theorem dL_law_245 : decode cL_law 245 = .ok (.iconst 0, 1) := by decide +kernel
theorem dL_law_246 : decode cL_law 246 = .ok (.ireturn, 1) := by decide +kernel
theorem dL_law_247 : decode cL_law 247 = .ok (.aload_n 1, 1) := by decide +kernel
theorem dL_law_248 : decode cL_law 248 = .ok (.invokevirtual 20, 3) := by decide +kernel
theorem dL_law_251 : decode cL_law 251 = .ok (.aload_n 2, 1) := by decide +kernel
theorem dL_law_252 : decode cL_law 252 = .ok (.invokevirtual 24, 3) := by decide +kernel
theorem dL_law_255 : decode cL_law 255 = .ok (.if_icmp .eq 1082, 3) := by decide +kernel
theorem dL_law_258 : decode cL_law 258 = .ok (.iconst 0, 1) := by decide +kernel
theorem dL_law_259 : decode cL_law 259 = .ok (.ireturn, 1) := by decide +kernel
theorem dL_law_260 : decode cL_law 260 = .ok (.aload_n 1, 1) := by decide +kernel
theorem dL_law_261 : decode cL_law 261 = .ok (.invokevirtual 25, 3) := by decide +kernel
theorem dL_law_264 : decode cL_law 264 = .ok (.aload_n 2, 1) := by decide +kernel
theorem dL_law_265 : decode cL_law 265 = .ok (.invokevirtual 28, 3) := by decide +kernel
theorem dL_law_268 : decode cL_law 268 = .ok (.if_icmp .eq 1069, 3) := by decide +kernel
theorem dL_law_271 : decode cL_law 271 = .ok (.iconst 0, 1) := by decide +kernel
theorem dL_law_272 : decode cL_law 272 = .ok (.ireturn, 1) := by decide +kernel
theorem dL_law_273 : decode cL_law 273 = .ok (.aload_n 1, 1) := by decide +kernel
theorem dL_law_274 : decode cL_law 274 = .ok (.invokevirtual 29, 3) := by decide +kernel
theorem dL_law_277 : decode cL_law 277 = .ok (.aload_n 2, 1) := by decide +kernel
theorem dL_law_278 : decode cL_law 278 = .ok (.invokevirtual 32, 3) := by decide +kernel
theorem dL_law_281 : decode cL_law 281 = .ok (.if_icmp .eq 1056, 3) := by decide +kernel
theorem dL_law_284 : decode cL_law 284 = .ok (.iconst 0, 1) := by decide +kernel
theorem dL_law_285 : decode cL_law 285 = .ok (.ireturn, 1) := by decide +kernel
theorem dL_law_286 : decode cL_law 286 = .ok (.aload_n 1, 1) := by decide +kernel
theorem dL_law_287 : decode cL_law 287 = .ok (.aload_n 0, 1) := by decide +kernel
theorem dL_law_288 : decode cL_law 288 = .ok (.iload_n 3, 1) := by decide +kernel
theorem dL_law_289 : decode cL_law 289 = .ok (.iconst 1, 1) := by decide +kernel
theorem dL_law_290 : decode cL_law 290 = .ok (.iadd, 1) := by decide +kernel
theorem dL_law_291 : decode cL_law 291 = .ok (.iaload, 1) := by decide +kernel
theorem dL_law_292 : decode cL_law 292 = .ok (.aload_n 0, 1) := by decide +kernel
theorem dL_law_293 : decode cL_law 293 = .ok (.iload_n 3, 1) := by decide +kernel
theorem dL_law_294 : decode cL_law 294 = .ok (.iconst 2, 1) := by decide +kernel
theorem dL_law_295 : decode cL_law 295 = .ok (.iadd, 1) := by decide +kernel
theorem dL_law_296 : decode cL_law 296 = .ok (.iaload, 1) := by decide +kernel
theorem dL_law_297 : decode cL_law 297 = .ok (.invokevirtual 33, 3) := by decide +kernel
theorem dL_law_300 : decode cL_law 300 = .ok (.aload_n 2, 1) := by decide +kernel
theorem dL_law_301 : decode cL_law 301 = .ok (.aload_n 0, 1) := by decide +kernel
theorem dL_law_302 : decode cL_law 302 = .ok (.iload_n 3, 1) := by decide +kernel
theorem dL_law_303 : decode cL_law 303 = .ok (.iconst 1, 1) := by decide +kernel
theorem dL_law_304 : decode cL_law 304 = .ok (.iadd, 1) := by decide +kernel
theorem dL_law_305 : decode cL_law 305 = .ok (.iaload, 1) := by decide +kernel
theorem dL_law_306 : decode cL_law 306 = .ok (.aload_n 0, 1) := by decide +kernel
theorem dL_law_307 : decode cL_law 307 = .ok (.iload_n 3, 1) := by decide +kernel
theorem dL_law_308 : decode cL_law 308 = .ok (.iconst 2, 1) := by decide +kernel
theorem dL_law_309 : decode cL_law 309 = .ok (.iadd, 1) := by decide +kernel
theorem dL_law_310 : decode cL_law 310 = .ok (.iaload, 1) := by decide +kernel
theorem dL_law_311 : decode cL_law 311 = .ok (.invokevirtual 37, 3) := by decide +kernel
theorem dL_law_314 : decode cL_law 314 = .ok (.if_icmp .eq 1023, 3) := by decide +kernel
theorem dL_law_317 : decode cL_law 317 = .ok (.iconst 0, 1) := by decide +kernel
theorem dL_law_318 : decode cL_law 318 = .ok (.ireturn, 1) := by decide +kernel
theorem dL_law_319 : decode cL_law 319 = .ok (.aload_n 1, 1) := by decide +kernel
theorem dL_law_320 : decode cL_law 320 = .ok (.aload_n 0, 1) := by decide +kernel
theorem dL_law_321 : decode cL_law 321 = .ok (.iload_n 3, 1) := by decide +kernel
theorem dL_law_322 : decode cL_law 322 = .ok (.iconst 1, 1) := by decide +kernel
theorem dL_law_323 : decode cL_law 323 = .ok (.iadd, 1) := by decide +kernel
theorem dL_law_324 : decode cL_law 324 = .ok (.iaload, 1) := by decide +kernel
theorem dL_law_325 : decode cL_law 325 = .ok (.aload_n 0, 1) := by decide +kernel
theorem dL_law_326 : decode cL_law 326 = .ok (.iload_n 3, 1) := by decide +kernel
theorem dL_law_327 : decode cL_law 327 = .ok (.iconst 2, 1) := by decide +kernel
theorem dL_law_328 : decode cL_law 328 = .ok (.iadd, 1) := by decide +kernel
theorem dL_law_329 : decode cL_law 329 = .ok (.iaload, 1) := by decide +kernel
theorem dL_law_330 : decode cL_law 330 = .ok (.invokevirtual 38, 3) := by decide +kernel
theorem dL_law_333 : decode cL_law 333 = .ok (.aload_n 2, 1) := by decide +kernel
theorem dL_law_334 : decode cL_law 334 = .ok (.aload_n 0, 1) := by decide +kernel
theorem dL_law_335 : decode cL_law 335 = .ok (.iload_n 3, 1) := by decide +kernel
theorem dL_law_336 : decode cL_law 336 = .ok (.iconst 1, 1) := by decide +kernel
theorem dL_law_337 : decode cL_law 337 = .ok (.iadd, 1) := by decide +kernel
theorem dL_law_338 : decode cL_law 338 = .ok (.iaload, 1) := by decide +kernel
theorem dL_law_339 : decode cL_law 339 = .ok (.aload_n 0, 1) := by decide +kernel
theorem dL_law_340 : decode cL_law 340 = .ok (.iload_n 3, 1) := by decide +kernel
theorem dL_law_341 : decode cL_law 341 = .ok (.iconst 2, 1) := by decide +kernel
theorem dL_law_342 : decode cL_law 342 = .ok (.iadd, 1) := by decide +kernel
theorem dL_law_343 : decode cL_law 343 = .ok (.iaload, 1) := by decide +kernel
theorem dL_law_344 : decode cL_law 344 = .ok (.invokevirtual 41, 3) := by decide +kernel
theorem dL_law_347 : decode cL_law 347 = .ok (.if_icmp .eq 990, 3) := by decide +kernel
theorem dL_law_350 : decode cL_law 350 = .ok (.iconst 0, 1) := by decide +kernel
theorem dL_law_351 : decode cL_law 351 = .ok (.ireturn, 1) := by decide +kernel
theorem dL_law_352 : decode cL_law 352 = .ok (.aload_n 1, 1) := by decide +kernel
theorem dL_law_353 : decode cL_law 353 = .ok (.aload_n 0, 1) := by decide +kernel
theorem dL_law_354 : decode cL_law 354 = .ok (.iload_n 3, 1) := by decide +kernel
theorem dL_law_355 : decode cL_law 355 = .ok (.iconst 1, 1) := by decide +kernel
theorem dL_law_356 : decode cL_law 356 = .ok (.iadd, 1) := by decide +kernel
theorem dL_law_357 : decode cL_law 357 = .ok (.iaload, 1) := by decide +kernel
theorem dL_law_358 : decode cL_law 358 = .ok (.aload_n 0, 1) := by decide +kernel
theorem dL_law_359 : decode cL_law 359 = .ok (.iload_n 3, 1) := by decide +kernel
theorem dL_law_360 : decode cL_law 360 = .ok (.iconst 2, 1) := by decide +kernel
theorem dL_law_361 : decode cL_law 361 = .ok (.iadd, 1) := by decide +kernel
theorem dL_law_362 : decode cL_law 362 = .ok (.iaload, 1) := by decide +kernel
theorem dL_law_363 : decode cL_law 363 = .ok (.invokevirtual 42, 3) := by decide +kernel
theorem dL_law_366 : decode cL_law 366 = .ok (.aload_n 2, 1) := by decide +kernel
theorem dL_law_367 : decode cL_law 367 = .ok (.aload_n 0, 1) := by decide +kernel
theorem dL_law_368 : decode cL_law 368 = .ok (.iload_n 3, 1) := by decide +kernel
theorem dL_law_369 : decode cL_law 369 = .ok (.iconst 1, 1) := by decide +kernel
theorem dL_law_370 : decode cL_law 370 = .ok (.iadd, 1) := by decide +kernel
theorem dL_law_371 : decode cL_law 371 = .ok (.iaload, 1) := by decide +kernel
theorem dL_law_372 : decode cL_law 372 = .ok (.aload_n 0, 1) := by decide +kernel
theorem dL_law_373 : decode cL_law 373 = .ok (.iload_n 3, 1) := by decide +kernel
theorem dL_law_374 : decode cL_law 374 = .ok (.iconst 2, 1) := by decide +kernel
theorem dL_law_375 : decode cL_law 375 = .ok (.iadd, 1) := by decide +kernel
theorem dL_law_376 : decode cL_law 376 = .ok (.iaload, 1) := by decide +kernel
theorem dL_law_377 : decode cL_law 377 = .ok (.invokevirtual 45, 3) := by decide +kernel
theorem dL_law_380 : decode cL_law 380 = .ok (.if_icmp .eq 957, 3) := by decide +kernel
theorem dL_law_383 : decode cL_law 383 = .ok (.iconst 0, 1) := by decide +kernel
theorem dL_law_384 : decode cL_law 384 = .ok (.ireturn, 1) := by decide +kernel
theorem dL_law_385 : decode cL_law 385 = .ok (.aload_n 1, 1) := by decide +kernel
theorem dL_law_386 : decode cL_law 386 = .ok (.aload_n 0, 1) := by decide +kernel
theorem dL_law_387 : decode cL_law 387 = .ok (.iload_n 3, 1) := by decide +kernel
theorem dL_law_388 : decode cL_law 388 = .ok (.iconst 1, 1) := by decide +kernel
theorem dL_law_389 : decode cL_law 389 = .ok (.iadd, 1) := by decide +kernel
theorem dL_law_390 : decode cL_law 390 = .ok (.iaload, 1) := by decide +kernel
theorem dL_law_391 : decode cL_law 391 = .ok (.aload_n 0, 1) := by decide +kernel
theorem dL_law_392 : decode cL_law 392 = .ok (.iload_n 3, 1) := by decide +kernel
theorem dL_law_393 : decode cL_law 393 = .ok (.iconst 2, 1) := by decide +kernel
theorem dL_law_394 : decode cL_law 394 = .ok (.iadd, 1) := by decide +kernel
theorem dL_law_395 : decode cL_law 395 = .ok (.iaload, 1) := by decide +kernel
theorem dL_law_396 : decode cL_law 396 = .ok (.invokevirtual 46, 3) := by decide +kernel
theorem dL_law_399 : decode cL_law 399 = .ok (.aload_n 2, 1) := by decide +kernel
theorem dL_law_400 : decode cL_law 400 = .ok (.aload_n 0, 1) := by decide +kernel
theorem dL_law_401 : decode cL_law 401 = .ok (.iload_n 3, 1) := by decide +kernel
theorem dL_law_402 : decode cL_law 402 = .ok (.iconst 1, 1) := by decide +kernel
theorem dL_law_403 : decode cL_law 403 = .ok (.iadd, 1) := by decide +kernel
theorem dL_law_404 : decode cL_law 404 = .ok (.iaload, 1) := by decide +kernel
theorem dL_law_405 : decode cL_law 405 = .ok (.aload_n 0, 1) := by decide +kernel
theorem dL_law_406 : decode cL_law 406 = .ok (.iload_n 3, 1) := by decide +kernel
theorem dL_law_407 : decode cL_law 407 = .ok (.iconst 2, 1) := by decide +kernel
theorem dL_law_408 : decode cL_law 408 = .ok (.iadd, 1) := by decide +kernel
theorem dL_law_409 : decode cL_law 409 = .ok (.iaload, 1) := by decide +kernel
theorem dL_law_410 : decode cL_law 410 = .ok (.invokevirtual 49, 3) := by decide +kernel
theorem dL_law_413 : decode cL_law 413 = .ok (.if_icmp .eq 924, 3) := by decide +kernel
theorem dL_law_416 : decode cL_law 416 = .ok (.iconst 0, 1) := by decide +kernel
theorem dL_law_417 : decode cL_law 417 = .ok (.ireturn, 1) := by decide +kernel
theorem dL_law_418 : decode cL_law 418 = .ok (.aload_n 1, 1) := by decide +kernel
theorem dL_law_419 : decode cL_law 419 = .ok (.aload_n 0, 1) := by decide +kernel
theorem dL_law_420 : decode cL_law 420 = .ok (.iload_n 3, 1) := by decide +kernel
theorem dL_law_421 : decode cL_law 421 = .ok (.iconst 1, 1) := by decide +kernel
theorem dL_law_422 : decode cL_law 422 = .ok (.iadd, 1) := by decide +kernel
theorem dL_law_423 : decode cL_law 423 = .ok (.iaload, 1) := by decide +kernel
theorem dL_law_424 : decode cL_law 424 = .ok (.invokevirtual 50, 3) := by decide +kernel
theorem dL_law_427 : decode cL_law 427 = .ok (.aload_n 2, 1) := by decide +kernel
theorem dL_law_428 : decode cL_law 428 = .ok (.aload_n 0, 1) := by decide +kernel
theorem dL_law_429 : decode cL_law 429 = .ok (.iload_n 3, 1) := by decide +kernel
theorem dL_law_430 : decode cL_law 430 = .ok (.iconst 1, 1) := by decide +kernel
theorem dL_law_431 : decode cL_law 431 = .ok (.iadd, 1) := by decide +kernel
theorem dL_law_432 : decode cL_law 432 = .ok (.iaload, 1) := by decide +kernel
theorem dL_law_433 : decode cL_law 433 = .ok (.invokevirtual 54, 3) := by decide +kernel
theorem dL_law_436 : decode cL_law 436 = .ok (.if_icmp .eq 901, 3) := by decide +kernel
theorem dL_law_439 : decode cL_law 439 = .ok (.iconst 0, 1) := by decide +kernel
theorem dL_law_440 : decode cL_law 440 = .ok (.ireturn, 1) := by decide +kernel
theorem dL_law_441 : decode cL_law 441 = .ok (.aload_n 1, 1) := by decide +kernel
theorem dL_law_442 : decode cL_law 442 = .ok (.aload_n 0, 1) := by decide +kernel
theorem dL_law_443 : decode cL_law 443 = .ok (.iload_n 3, 1) := by decide +kernel
theorem dL_law_444 : decode cL_law 444 = .ok (.iconst 1, 1) := by decide +kernel
theorem dL_law_445 : decode cL_law 445 = .ok (.iadd, 1) := by decide +kernel
theorem dL_law_446 : decode cL_law 446 = .ok (.iaload, 1) := by decide +kernel
theorem dL_law_447 : decode cL_law 447 = .ok (.aload_n 0, 1) := by decide +kernel
theorem dL_law_448 : decode cL_law 448 = .ok (.iload_n 3, 1) := by decide +kernel
theorem dL_law_449 : decode cL_law 449 = .ok (.iconst 2, 1) := by decide +kernel
theorem dL_law_450 : decode cL_law 450 = .ok (.iadd, 1) := by decide +kernel
theorem dL_law_451 : decode cL_law 451 = .ok (.iaload, 1) := by decide +kernel
theorem dL_law_452 : decode cL_law 452 = .ok (.aload_n 0, 1) := by decide +kernel
theorem dL_law_453 : decode cL_law 453 = .ok (.iload_n 3, 1) := by decide +kernel
theorem dL_law_454 : decode cL_law 454 = .ok (.iconst 3, 1) := by decide +kernel
theorem dL_law_455 : decode cL_law 455 = .ok (.iadd, 1) := by decide +kernel
theorem dL_law_456 : decode cL_law 456 = .ok (.iaload, 1) := by decide +kernel
theorem dL_law_457 : decode cL_law 457 = .ok (.invokevirtual 55, 3) := by decide +kernel
theorem dL_law_460 : decode cL_law 460 = .ok (.aload_n 2, 1) := by decide +kernel
theorem dL_law_461 : decode cL_law 461 = .ok (.aload_n 0, 1) := by decide +kernel
theorem dL_law_462 : decode cL_law 462 = .ok (.iload_n 3, 1) := by decide +kernel
theorem dL_law_463 : decode cL_law 463 = .ok (.iconst 1, 1) := by decide +kernel
theorem dL_law_464 : decode cL_law 464 = .ok (.iadd, 1) := by decide +kernel
theorem dL_law_465 : decode cL_law 465 = .ok (.iaload, 1) := by decide +kernel
theorem dL_law_466 : decode cL_law 466 = .ok (.aload_n 0, 1) := by decide +kernel
theorem dL_law_467 : decode cL_law 467 = .ok (.iload_n 3, 1) := by decide +kernel
theorem dL_law_468 : decode cL_law 468 = .ok (.iconst 2, 1) := by decide +kernel
theorem dL_law_469 : decode cL_law 469 = .ok (.iadd, 1) := by decide +kernel
theorem dL_law_470 : decode cL_law 470 = .ok (.iaload, 1) := by decide +kernel
theorem dL_law_471 : decode cL_law 471 = .ok (.aload_n 0, 1) := by decide +kernel
theorem dL_law_472 : decode cL_law 472 = .ok (.iload_n 3, 1) := by decide +kernel
theorem dL_law_473 : decode cL_law 473 = .ok (.iconst 3, 1) := by decide +kernel
theorem dL_law_474 : decode cL_law 474 = .ok (.iadd, 1) := by decide +kernel
theorem dL_law_475 : decode cL_law 475 = .ok (.iaload, 1) := by decide +kernel
theorem dL_law_476 : decode cL_law 476 = .ok (.invokevirtual 59, 3) := by decide +kernel
theorem dL_law_479 : decode cL_law 479 = .ok (.if_icmp .eq 858, 3) := by decide +kernel
theorem dL_law_482 : decode cL_law 482 = .ok (.iconst 0, 1) := by decide +kernel
theorem dL_law_483 : decode cL_law 483 = .ok (.ireturn, 1) := by decide +kernel
theorem dL_law_484 : decode cL_law 484 = .ok (.aload_n 1, 1) := by decide +kernel
theorem dL_law_485 : decode cL_law 485 = .ok (.invokevirtual 60, 3) := by decide +kernel
theorem dL_law_488 : decode cL_law 488 = .ok (.aload_n 2, 1) := by decide +kernel
theorem dL_law_489 : decode cL_law 489 = .ok (.invokevirtual 63, 3) := by decide +kernel
theorem dL_law_492 : decode cL_law 492 = .ok (.if_icmp .eq 845, 3) := by decide +kernel
theorem dL_law_495 : decode cL_law 495 = .ok (.iconst 0, 1) := by decide +kernel
theorem dL_law_496 : decode cL_law 496 = .ok (.ireturn, 1) := by decide +kernel
theorem dL_law_497 : decode cL_law 497 = .ok (.aload_n 1, 1) := by decide +kernel
theorem dL_law_498 : decode cL_law 498 = .ok (.aload_n 0, 1) := by decide +kernel
theorem dL_law_499 : decode cL_law 499 = .ok (.iload_n 3, 1) := by decide +kernel
theorem dL_law_500 : decode cL_law 500 = .ok (.iconst 1, 1) := by decide +kernel
theorem dL_law_501 : decode cL_law 501 = .ok (.iadd, 1) := by decide +kernel
theorem dL_law_502 : decode cL_law 502 = .ok (.iaload, 1) := by decide +kernel
theorem dL_law_503 : decode cL_law 503 = .ok (.aload_n 0, 1) := by decide +kernel
theorem dL_law_504 : decode cL_law 504 = .ok (.iload_n 3, 1) := by decide +kernel
theorem dL_law_505 : decode cL_law 505 = .ok (.iconst 2, 1) := by decide +kernel
theorem dL_law_506 : decode cL_law 506 = .ok (.iadd, 1) := by decide +kernel
theorem dL_law_507 : decode cL_law 507 = .ok (.iaload, 1) := by decide +kernel
theorem dL_law_508 : decode cL_law 508 = .ok (.invokevirtual 64, 3) := by decide +kernel
theorem dL_law_511 : decode cL_law 511 = .ok (.aload_n 2, 1) := by decide +kernel
theorem dL_law_512 : decode cL_law 512 = .ok (.aload_n 0, 1) := by decide +kernel
theorem dL_law_513 : decode cL_law 513 = .ok (.iload_n 3, 1) := by decide +kernel
theorem dL_law_514 : decode cL_law 514 = .ok (.iconst 1, 1) := by decide +kernel
theorem dL_law_515 : decode cL_law 515 = .ok (.iadd, 1) := by decide +kernel
theorem dL_law_516 : decode cL_law 516 = .ok (.iaload, 1) := by decide +kernel
theorem dL_law_517 : decode cL_law 517 = .ok (.aload_n 0, 1) := by decide +kernel
theorem dL_law_518 : decode cL_law 518 = .ok (.iload_n 3, 1) := by decide +kernel
theorem dL_law_519 : decode cL_law 519 = .ok (.iconst 2, 1) := by decide +kernel
theorem dL_law_520 : decode cL_law 520 = .ok (.iadd, 1) := by decide +kernel
theorem dL_law_521 : decode cL_law 521 = .ok (.iaload, 1) := by decide +kernel
theorem dL_law_522 : decode cL_law 522 = .ok (.invokevirtual 67, 3) := by decide +kernel
theorem dL_law_525 : decode cL_law 525 = .ok (.if_icmp .eq 812, 3) := by decide +kernel
theorem dL_law_528 : decode cL_law 528 = .ok (.iconst 0, 1) := by decide +kernel
theorem dL_law_529 : decode cL_law 529 = .ok (.ireturn, 1) := by decide +kernel
theorem dL_law_530 : decode cL_law 530 = .ok (.aload_n 1, 1) := by decide +kernel
theorem dL_law_531 : decode cL_law 531 = .ok (.aload_n 0, 1) := by decide +kernel
theorem dL_law_532 : decode cL_law 532 = .ok (.iload_n 3, 1) := by decide +kernel
theorem dL_law_533 : decode cL_law 533 = .ok (.iconst 1, 1) := by decide +kernel
theorem dL_law_534 : decode cL_law 534 = .ok (.iadd, 1) := by decide +kernel
theorem dL_law_535 : decode cL_law 535 = .ok (.iaload, 1) := by decide +kernel
theorem dL_law_536 : decode cL_law 536 = .ok (.aload_n 0, 1) := by decide +kernel
theorem dL_law_537 : decode cL_law 537 = .ok (.iload_n 3, 1) := by decide +kernel
theorem dL_law_538 : decode cL_law 538 = .ok (.iconst 2, 1) := by decide +kernel
theorem dL_law_539 : decode cL_law 539 = .ok (.iadd, 1) := by decide +kernel
theorem dL_law_540 : decode cL_law 540 = .ok (.iaload, 1) := by decide +kernel
theorem dL_law_541 : decode cL_law 541 = .ok (.aload_n 0, 1) := by decide +kernel
theorem dL_law_542 : decode cL_law 542 = .ok (.iload_n 3, 1) := by decide +kernel
theorem dL_law_543 : decode cL_law 543 = .ok (.iconst 3, 1) := by decide +kernel
theorem dL_law_544 : decode cL_law 544 = .ok (.iadd, 1) := by decide +kernel
theorem dL_law_545 : decode cL_law 545 = .ok (.iaload, 1) := by decide +kernel
theorem dL_law_546 : decode cL_law 546 = .ok (.ifCond .eq 7, 3) := by decide +kernel
theorem dL_law_549 : decode cL_law 549 = .ok (.iconst 1, 1) := by decide +kernel
theorem dL_law_550 : decode cL_law 550 = .ok (.goto 4, 3) := by decide +kernel
theorem dL_law_553 : decode cL_law 553 = .ok (.iconst 0, 1) := by decide +kernel
end
section
theorem dL_law_554 : decode cL_law 554 = .ok (.invokevirtual 68, 3) := by decide +kernel
theorem dL_law_557 : decode cL_law 557 = .ok (.aload_n 2, 1) := by decide +kernel
theorem dL_law_558 : decode cL_law 558 = .ok (.aload_n 0, 1) := by decide +kernel
theorem dL_law_559 : decode cL_law 559 = .ok (.iload_n 3, 1) := by decide +kernel
theorem dL_law_560 : decode cL_law 560 = .ok (.iconst 1, 1) := by decide +kernel
theorem dL_law_561 : decode cL_law 561 = .ok (.iadd, 1) := by decide +kernel
theorem dL_law_562 : decode cL_law 562 = .ok (.iaload, 1) := by decide +kernel
theorem dL_law_563 : decode cL_law 563 = .ok (.aload_n 0, 1) := by decide +kernel
theorem dL_law_564 : decode cL_law 564 = .ok (.iload_n 3, 1) := by decide +kernel
theorem dL_law_565 : decode cL_law 565 = .ok (.iconst 2, 1) := by decide +kernel
theorem dL_law_566 : decode cL_law 566 = .ok (.iadd, 1) := by decide +kernel
theorem dL_law_567 : decode cL_law 567 = .ok (.iaload, 1) := by decide +kernel
theorem dL_law_568 : decode cL_law 568 = .ok (.aload_n 0, 1) := by decide +kernel
theorem dL_law_569 : decode cL_law 569 = .ok (.iload_n 3, 1) := by decide +kernel
theorem dL_law_570 : decode cL_law 570 = .ok (.iconst 3, 1) := by decide +kernel
theorem dL_law_571 : decode cL_law 571 = .ok (.iadd, 1) := by decide +kernel
theorem dL_law_572 : decode cL_law 572 = .ok (.iaload, 1) := by decide +kernel
theorem dL_law_573 : decode cL_law 573 = .ok (.ifCond .eq 7, 3) := by decide +kernel
theorem dL_law_576 : decode cL_law 576 = .ok (.iconst 1, 1) := by decide +kernel
theorem dL_law_577 : decode cL_law 577 = .ok (.goto 4, 3) := by decide +kernel
theorem dL_law_580 : decode cL_law 580 = .ok (.iconst 0, 1) := by decide +kernel
theorem dL_law_581 : decode cL_law 581 = .ok (.invokevirtual 72, 3) := by decide +kernel
theorem dL_law_584 : decode cL_law 584 = .ok (.if_icmp .eq 753, 3) := by decide +kernel
theorem dL_law_587 : decode cL_law 587 = .ok (.iconst 0, 1) := by decide +kernel
theorem dL_law_588 : decode cL_law 588 = .ok (.ireturn, 1) := by decide +kernel
theorem dL_law_589 : decode cL_law 589 = .ok (.aload_n 1, 1) := by decide +kernel
theorem dL_law_590 : decode cL_law 590 = .ok (.aload_n 0, 1) := by decide +kernel
theorem dL_law_591 : decode cL_law 591 = .ok (.iload_n 3, 1) := by decide +kernel
theorem dL_law_592 : decode cL_law 592 = .ok (.iconst 1, 1) := by decide +kernel
theorem dL_law_593 : decode cL_law 593 = .ok (.iadd, 1) := by decide +kernel
theorem dL_law_594 : decode cL_law 594 = .ok (.iaload, 1) := by decide +kernel
theorem dL_law_595 : decode cL_law 595 = .ok (.aload_n 0, 1) := by decide +kernel
theorem dL_law_596 : decode cL_law 596 = .ok (.iload_n 3, 1) := by decide +kernel
theorem dL_law_597 : decode cL_law 597 = .ok (.iconst 2, 1) := by decide +kernel
theorem dL_law_598 : decode cL_law 598 = .ok (.iadd, 1) := by decide +kernel
theorem dL_law_599 : decode cL_law 599 = .ok (.iaload, 1) := by decide +kernel
theorem dL_law_600 : decode cL_law 600 = .ok (.invokevirtual 73, 3) := by decide +kernel
theorem dL_law_603 : decode cL_law 603 = .ok (.aload_n 2, 1) := by decide +kernel
theorem dL_law_604 : decode cL_law 604 = .ok (.aload_n 0, 1) := by decide +kernel
theorem dL_law_605 : decode cL_law 605 = .ok (.iload_n 3, 1) := by decide +kernel
theorem dL_law_606 : decode cL_law 606 = .ok (.iconst 1, 1) := by decide +kernel
theorem dL_law_607 : decode cL_law 607 = .ok (.iadd, 1) := by decide +kernel
theorem dL_law_608 : decode cL_law 608 = .ok (.iaload, 1) := by decide +kernel
theorem dL_law_609 : decode cL_law 609 = .ok (.aload_n 0, 1) := by decide +kernel
theorem dL_law_610 : decode cL_law 610 = .ok (.iload_n 3, 1) := by decide +kernel
theorem dL_law_611 : decode cL_law 611 = .ok (.iconst 2, 1) := by decide +kernel
theorem dL_law_612 : decode cL_law 612 = .ok (.iadd, 1) := by decide +kernel
theorem dL_law_613 : decode cL_law 613 = .ok (.iaload, 1) := by decide +kernel
theorem dL_law_614 : decode cL_law 614 = .ok (.invokevirtual 76, 3) := by decide +kernel
theorem dL_law_617 : decode cL_law 617 = .ok (.if_icmp .eq 720, 3) := by decide +kernel
theorem dL_law_620 : decode cL_law 620 = .ok (.iconst 0, 1) := by decide +kernel
theorem dL_law_621 : decode cL_law 621 = .ok (.ireturn, 1) := by decide +kernel
theorem dL_law_622 : decode cL_law 622 = .ok (.aload_n 1, 1) := by decide +kernel
theorem dL_law_623 : decode cL_law 623 = .ok (.aload_n 0, 1) := by decide +kernel
theorem dL_law_624 : decode cL_law 624 = .ok (.iload_n 3, 1) := by decide +kernel
theorem dL_law_625 : decode cL_law 625 = .ok (.iconst 1, 1) := by decide +kernel
theorem dL_law_626 : decode cL_law 626 = .ok (.iadd, 1) := by decide +kernel
theorem dL_law_627 : decode cL_law 627 = .ok (.iaload, 1) := by decide +kernel
theorem dL_law_628 : decode cL_law 628 = .ok (.aload_n 0, 1) := by decide +kernel
theorem dL_law_629 : decode cL_law 629 = .ok (.iload_n 3, 1) := by decide +kernel
theorem dL_law_630 : decode cL_law 630 = .ok (.iconst 2, 1) := by decide +kernel
theorem dL_law_631 : decode cL_law 631 = .ok (.iadd, 1) := by decide +kernel
theorem dL_law_632 : decode cL_law 632 = .ok (.iaload, 1) := by decide +kernel
theorem dL_law_633 : decode cL_law 633 = .ok (.aload_n 0, 1) := by decide +kernel
theorem dL_law_634 : decode cL_law 634 = .ok (.iload_n 3, 1) := by decide +kernel
theorem dL_law_635 : decode cL_law 635 = .ok (.iconst 3, 1) := by decide +kernel
theorem dL_law_636 : decode cL_law 636 = .ok (.iadd, 1) := by decide +kernel
theorem dL_law_637 : decode cL_law 637 = .ok (.iaload, 1) := by decide +kernel
theorem dL_law_638 : decode cL_law 638 = .ok (.invokevirtual 77, 3) := by decide +kernel
theorem dL_law_641 : decode cL_law 641 = .ok (.aload_n 2, 1) := by decide +kernel
theorem dL_law_642 : decode cL_law 642 = .ok (.aload_n 0, 1) := by decide +kernel
theorem dL_law_643 : decode cL_law 643 = .ok (.iload_n 3, 1) := by decide +kernel
theorem dL_law_644 : decode cL_law 644 = .ok (.iconst 1, 1) := by decide +kernel
theorem dL_law_645 : decode cL_law 645 = .ok (.iadd, 1) := by decide +kernel
theorem dL_law_646 : decode cL_law 646 = .ok (.iaload, 1) := by decide +kernel
theorem dL_law_647 : decode cL_law 647 = .ok (.aload_n 0, 1) := by decide +kernel
theorem dL_law_648 : decode cL_law 648 = .ok (.iload_n 3, 1) := by decide +kernel
theorem dL_law_649 : decode cL_law 649 = .ok (.iconst 2, 1) := by decide +kernel
theorem dL_law_650 : decode cL_law 650 = .ok (.iadd, 1) := by decide +kernel
theorem dL_law_651 : decode cL_law 651 = .ok (.iaload, 1) := by decide +kernel
theorem dL_law_652 : decode cL_law 652 = .ok (.aload_n 0, 1) := by decide +kernel
theorem dL_law_653 : decode cL_law 653 = .ok (.iload_n 3, 1) := by decide +kernel
theorem dL_law_654 : decode cL_law 654 = .ok (.iconst 3, 1) := by decide +kernel
theorem dL_law_655 : decode cL_law 655 = .ok (.iadd, 1) := by decide +kernel
theorem dL_law_656 : decode cL_law 656 = .ok (.iaload, 1) := by decide +kernel
theorem dL_law_657 : decode cL_law 657 = .ok (.invokevirtual 80, 3) := by decide +kernel
theorem dL_law_660 : decode cL_law 660 = .ok (.if_icmp .eq 677, 3) := by decide +kernel
theorem dL_law_663 : decode cL_law 663 = .ok (.iconst 0, 1) := by decide +kernel
theorem dL_law_664 : decode cL_law 664 = .ok (.ireturn, 1) := by decide +kernel
theorem dL_law_665 : decode cL_law 665 = .ok (.aload_n 1, 1) := by decide +kernel
theorem dL_law_666 : decode cL_law 666 = .ok (.aload_n 0, 1) := by decide +kernel
theorem dL_law_667 : decode cL_law 667 = .ok (.iload_n 3, 1) := by decide +kernel
theorem dL_law_668 : decode cL_law 668 = .ok (.iconst 1, 1) := by decide +kernel
theorem dL_law_669 : decode cL_law 669 = .ok (.iadd, 1) := by decide +kernel
theorem dL_law_670 : decode cL_law 670 = .ok (.iaload, 1) := by decide +kernel
theorem dL_law_671 : decode cL_law 671 = .ok (.aload_n 0, 1) := by decide +kernel
theorem dL_law_672 : decode cL_law 672 = .ok (.iload_n 3, 1) := by decide +kernel
theorem dL_law_673 : decode cL_law 673 = .ok (.iconst 2, 1) := by decide +kernel
theorem dL_law_674 : decode cL_law 674 = .ok (.iadd, 1) := by decide +kernel
theorem dL_law_675 : decode cL_law 675 = .ok (.iaload, 1) := by decide +kernel
theorem dL_law_676 : decode cL_law 676 = .ok (.aload_n 0, 1) := by decide +kernel
theorem dL_law_677 : decode cL_law 677 = .ok (.iload_n 3, 1) := by decide +kernel
theorem dL_law_678 : decode cL_law 678 = .ok (.iconst 3, 1) := by decide +kernel
theorem dL_law_679 : decode cL_law 679 = .ok (.iadd, 1) := by decide +kernel
theorem dL_law_680 : decode cL_law 680 = .ok (.iaload, 1) := by decide +kernel
theorem dL_law_681 : decode cL_law 681 = .ok (.aload_n 0, 1) := by decide +kernel
theorem dL_law_682 : decode cL_law 682 = .ok (.iload_n 3, 1) := by decide +kernel
theorem dL_law_683 : decode cL_law 683 = .ok (.iconst 4, 1) := by decide +kernel
theorem dL_law_684 : decode cL_law 684 = .ok (.iadd, 1) := by decide +kernel
theorem dL_law_685 : decode cL_law 685 = .ok (.iaload, 1) := by decide +kernel
theorem dL_law_686 : decode cL_law 686 = .ok (.aload_n 0, 1) := by decide +kernel
theorem dL_law_687 : decode cL_law 687 = .ok (.iload_n 3, 1) := by decide +kernel
theorem dL_law_688 : decode cL_law 688 = .ok (.iconst 5, 1) := by decide +kernel
theorem dL_law_689 : decode cL_law 689 = .ok (.iadd, 1) := by decide +kernel
theorem dL_law_690 : decode cL_law 690 = .ok (.iaload, 1) := by decide +kernel
theorem dL_law_691 : decode cL_law 691 = .ok (.invokevirtual 81, 3) := by decide +kernel
theorem dL_law_694 : decode cL_law 694 = .ok (.aload_n 2, 1) := by decide +kernel
theorem dL_law_695 : decode cL_law 695 = .ok (.aload_n 0, 1) := by decide +kernel
theorem dL_law_696 : decode cL_law 696 = .ok (.iload_n 3, 1) := by decide +kernel
theorem dL_law_697 : decode cL_law 697 = .ok (.iconst 1, 1) := by decide +kernel
theorem dL_law_698 : decode cL_law 698 = .ok (.iadd, 1) := by decide +kernel
theorem dL_law_699 : decode cL_law 699 = .ok (.iaload, 1) := by decide +kernel
theorem dL_law_700 : decode cL_law 700 = .ok (.aload_n 0, 1) := by decide +kernel
theorem dL_law_701 : decode cL_law 701 = .ok (.iload_n 3, 1) := by decide +kernel
theorem dL_law_702 : decode cL_law 702 = .ok (.iconst 2, 1) := by decide +kernel
theorem dL_law_703 : decode cL_law 703 = .ok (.iadd, 1) := by decide +kernel
theorem dL_law_704 : decode cL_law 704 = .ok (.iaload, 1) := by decide +kernel
theorem dL_law_705 : decode cL_law 705 = .ok (.aload_n 0, 1) := by decide +kernel
theorem dL_law_706 : decode cL_law 706 = .ok (.iload_n 3, 1) := by decide +kernel
theorem dL_law_707 : decode cL_law 707 = .ok (.iconst 3, 1) := by decide +kernel
theorem dL_law_708 : decode cL_law 708 = .ok (.iadd, 1) := by decide +kernel
theorem dL_law_709 : decode cL_law 709 = .ok (.iaload, 1) := by decide +kernel
theorem dL_law_710 : decode cL_law 710 = .ok (.aload_n 0, 1) := by decide +kernel
theorem dL_law_711 : decode cL_law 711 = .ok (.iload_n 3, 1) := by decide +kernel
theorem dL_law_712 : decode cL_law 712 = .ok (.iconst 4, 1) := by decide +kernel
theorem dL_law_713 : decode cL_law 713 = .ok (.iadd, 1) := by decide +kernel
theorem dL_law_714 : decode cL_law 714 = .ok (.iaload, 1) := by decide +kernel
theorem dL_law_715 : decode cL_law 715 = .ok (.aload_n 0, 1) := by decide +kernel
theorem dL_law_716 : decode cL_law 716 = .ok (.iload_n 3, 1) := by decide +kernel
theorem dL_law_717 : decode cL_law 717 = .ok (.iconst 5, 1) := by decide +kernel
theorem dL_law_718 : decode cL_law 718 = .ok (.iadd, 1) := by decide +kernel
theorem dL_law_719 : decode cL_law 719 = .ok (.iaload, 1) := by decide +kernel
theorem dL_law_720 : decode cL_law 720 = .ok (.invokevirtual 85, 3) := by decide +kernel
theorem dL_law_723 : decode cL_law 723 = .ok (.if_icmp .eq 614, 3) := by decide +kernel
theorem dL_law_726 : decode cL_law 726 = .ok (.iconst 0, 1) := by decide +kernel
theorem dL_law_727 : decode cL_law 727 = .ok (.ireturn, 1) := by decide +kernel
theorem dL_law_728 : decode cL_law 728 = .ok (.aload_n 1, 1) := by decide +kernel
theorem dL_law_729 : decode cL_law 729 = .ok (.invokevirtual 86, 3) := by decide +kernel
theorem dL_law_732 : decode cL_law 732 = .ok (.aload_n 2, 1) := by decide +kernel
theorem dL_law_733 : decode cL_law 733 = .ok (.invokevirtual 89, 3) := by decide +kernel
theorem dL_law_736 : decode cL_law 736 = .ok (.if_icmp .eq 601, 3) := by decide +kernel
theorem dL_law_739 : decode cL_law 739 = .ok (.iconst 0, 1) := by decide +kernel
theorem dL_law_740 : decode cL_law 740 = .ok (.ireturn, 1) := by decide +kernel
theorem dL_law_741 : decode cL_law 741 = .ok (.aload_n 1, 1) := by decide +kernel
theorem dL_law_742 : decode cL_law 742 = .ok (.aload_n 0, 1) := by decide +kernel
theorem dL_law_743 : decode cL_law 743 = .ok (.iload_n 3, 1) := by decide +kernel
theorem dL_law_744 : decode cL_law 744 = .ok (.iconst 1, 1) := by decide +kernel
theorem dL_law_745 : decode cL_law 745 = .ok (.iadd, 1) := by decide +kernel
theorem dL_law_746 : decode cL_law 746 = .ok (.iaload, 1) := by decide +kernel
theorem dL_law_747 : decode cL_law 747 = .ok (.aload_n 0, 1) := by decide +kernel
theorem dL_law_748 : decode cL_law 748 = .ok (.iload_n 3, 1) := by decide +kernel
theorem dL_law_749 : decode cL_law 749 = .ok (.iconst 2, 1) := by decide +kernel
theorem dL_law_750 : decode cL_law 750 = .ok (.iadd, 1) := by decide +kernel
theorem dL_law_751 : decode cL_law 751 = .ok (.iaload, 1) := by decide +kernel
theorem dL_law_752 : decode cL_law 752 = .ok (.ifCond .eq 7, 3) := by decide +kernel
theorem dL_law_755 : decode cL_law 755 = .ok (.iconst 1, 1) := by decide +kernel
theorem dL_law_756 : decode cL_law 756 = .ok (.goto 4, 3) := by decide +kernel
theorem dL_law_759 : decode cL_law 759 = .ok (.iconst 0, 1) := by decide +kernel
theorem dL_law_760 : decode cL_law 760 = .ok (.invokevirtual 90, 3) := by decide +kernel
theorem dL_law_763 : decode cL_law 763 = .ok (.aload_n 2, 1) := by decide +kernel
theorem dL_law_764 : decode cL_law 764 = .ok (.aload_n 0, 1) := by decide +kernel
theorem dL_law_765 : decode cL_law 765 = .ok (.iload_n 3, 1) := by decide +kernel
theorem dL_law_766 : decode cL_law 766 = .ok (.iconst 1, 1) := by decide +kernel
theorem dL_law_767 : decode cL_law 767 = .ok (.iadd, 1) := by decide +kernel
theorem dL_law_768 : decode cL_law 768 = .ok (.iaload, 1) := by decide +kernel
theorem dL_law_769 : decode cL_law 769 = .ok (.aload_n 0, 1) := by decide +kernel
theorem dL_law_770 : decode cL_law 770 = .ok (.iload_n 3, 1) := by decide +kernel
theorem dL_law_771 : decode cL_law 771 = .ok (.iconst 2, 1) := by decide +kernel
theorem dL_law_772 : decode cL_law 772 = .ok (.iadd, 1) := by decide +kernel
theorem dL_law_773 : decode cL_law 773 = .ok (.iaload, 1) := by decide +kernel
theorem dL_law_774 : decode cL_law 774 = .ok (.ifCond .eq 7, 3) := by decide +kernel
theorem dL_law_777 : decode cL_law 777 = .ok (.iconst 1, 1) := by decide +kernel
theorem dL_law_778 : decode cL_law 778 = .ok (.goto 4, 3) := by decide +kernel
theorem dL_law_781 : decode cL_law 781 = .ok (.iconst 0, 1) := by decide +kernel
theorem dL_law_782 : decode cL_law 782 = .ok (.invokevirtual 94, 3) := by decide +kernel
theorem dL_law_785 : decode cL_law 785 = .ok (.lcmp, 1) := by decide +kernel
theorem dL_law_786 : decode cL_law 786 = .ok (.ifCond .eq 551, 3) := by decide +kernel
theorem dL_law_789 : decode cL_law 789 = .ok (.iconst 0, 1) := by decide +kernel
theorem dL_law_790 : decode cL_law 790 = .ok (.ireturn, 1) := by decide +kernel
theorem dL_law_791 : decode cL_law 791 = .ok (.aload_n 1, 1) := by decide +kernel
theorem dL_law_792 : decode cL_law 792 = .ok (.aload_n 0, 1) := by decide +kernel
theorem dL_law_793 : decode cL_law 793 = .ok (.iload_n 3, 1) := by decide +kernel
theorem dL_law_794 : decode cL_law 794 = .ok (.iconst 1, 1) := by decide +kernel
theorem dL_law_795 : decode cL_law 795 = .ok (.iadd, 1) := by decide +kernel
theorem dL_law_796 : decode cL_law 796 = .ok (.iaload, 1) := by decide +kernel
theorem dL_law_797 : decode cL_law 797 = .ok (.aload_n 0, 1) := by decide +kernel
theorem dL_law_798 : decode cL_law 798 = .ok (.iload_n 3, 1) := by decide +kernel
theorem dL_law_799 : decode cL_law 799 = .ok (.iconst 2, 1) := by decide +kernel
theorem dL_law_800 : decode cL_law 800 = .ok (.iadd, 1) := by decide +kernel
theorem dL_law_801 : decode cL_law 801 = .ok (.iaload, 1) := by decide +kernel
theorem dL_law_802 : decode cL_law 802 = .ok (.invokevirtual 95, 3) := by decide +kernel
theorem dL_law_805 : decode cL_law 805 = .ok (.aload_n 2, 1) := by decide +kernel
theorem dL_law_806 : decode cL_law 806 = .ok (.aload_n 0, 1) := by decide +kernel
theorem dL_law_807 : decode cL_law 807 = .ok (.iload_n 3, 1) := by decide +kernel
theorem dL_law_808 : decode cL_law 808 = .ok (.iconst 1, 1) := by decide +kernel
theorem dL_law_809 : decode cL_law 809 = .ok (.iadd, 1) := by decide +kernel
theorem dL_law_810 : decode cL_law 810 = .ok (.iaload, 1) := by decide +kernel
theorem dL_law_811 : decode cL_law 811 = .ok (.aload_n 0, 1) := by decide +kernel
theorem dL_law_812 : decode cL_law 812 = .ok (.iload_n 3, 1) := by decide +kernel
theorem dL_law_813 : decode cL_law 813 = .ok (.iconst 2, 1) := by decide +kernel
theorem dL_law_814 : decode cL_law 814 = .ok (.iadd, 1) := by decide +kernel
theorem dL_law_815 : decode cL_law 815 = .ok (.iaload, 1) := by decide +kernel
theorem dL_law_816 : decode cL_law 816 = .ok (.invokevirtual 98, 3) := by decide +kernel
theorem dL_law_819 : decode cL_law 819 = .ok (.if_icmp .eq 518, 3) := by decide +kernel
theorem dL_law_822 : decode cL_law 822 = .ok (.iconst 0, 1) := by decide +kernel
theorem dL_law_823 : decode cL_law 823 = .ok (.ireturn, 1) := by decide +kernel
theorem dL_law_824 : decode cL_law 824 = .ok (.aload_n 1, 1) := by decide +kernel
theorem dL_law_825 : decode cL_law 825 = .ok (.aload_n 0, 1) := by decide +kernel
theorem dL_law_826 : decode cL_law 826 = .ok (.iload_n 3, 1) := by decide +kernel
theorem dL_law_827 : decode cL_law 827 = .ok (.iconst 1, 1) := by decide +kernel
theorem dL_law_828 : decode cL_law 828 = .ok (.iadd, 1) := by decide +kernel
theorem dL_law_829 : decode cL_law 829 = .ok (.iaload, 1) := by decide +kernel
theorem dL_law_830 : decode cL_law 830 = .ok (.aload_n 0, 1) := by decide +kernel
theorem dL_law_831 : decode cL_law 831 = .ok (.iload_n 3, 1) := by decide +kernel
theorem dL_law_832 : decode cL_law 832 = .ok (.iconst 2, 1) := by decide +kernel
theorem dL_law_833 : decode cL_law 833 = .ok (.iadd, 1) := by decide +kernel
theorem dL_law_834 : decode cL_law 834 = .ok (.iaload, 1) := by decide +kernel
theorem dL_law_835 : decode cL_law 835 = .ok (.invokevirtual 99, 3) := by decide +kernel
theorem dL_law_838 : decode cL_law 838 = .ok (.aload_n 2, 1) := by decide +kernel
theorem dL_law_839 : decode cL_law 839 = .ok (.aload_n 0, 1) := by decide +kernel
theorem dL_law_840 : decode cL_law 840 = .ok (.iload_n 3, 1) := by decide +kernel
theorem dL_law_841 : decode cL_law 841 = .ok (.iconst 1, 1) := by decide +kernel
theorem dL_law_842 : decode cL_law 842 = .ok (.iadd, 1) := by decide +kernel
theorem dL_law_843 : decode cL_law 843 = .ok (.iaload, 1) := by decide +kernel
theorem dL_law_844 : decode cL_law 844 = .ok (.aload_n 0, 1) := by decide +kernel
theorem dL_law_845 : decode cL_law 845 = .ok (.iload_n 3, 1) := by decide +kernel
theorem dL_law_846 : decode cL_law 846 = .ok (.iconst 2, 1) := by decide +kernel
theorem dL_law_847 : decode cL_law 847 = .ok (.iadd, 1) := by decide +kernel
theorem dL_law_848 : decode cL_law 848 = .ok (.iaload, 1) := by decide +kernel
theorem dL_law_849 : decode cL_law 849 = .ok (.invokevirtual 102, 3) := by decide +kernel
theorem dL_law_852 : decode cL_law 852 = .ok (.if_icmp .eq 485, 3) := by decide +kernel
theorem dL_law_855 : decode cL_law 855 = .ok (.iconst 0, 1) := by decide +kernel
theorem dL_law_856 : decode cL_law 856 = .ok (.ireturn, 1) := by decide +kernel
theorem dL_law_857 : decode cL_law 857 = .ok (.aload_n 1, 1) := by decide +kernel
theorem dL_law_858 : decode cL_law 858 = .ok (.aload_n 0, 1) := by decide +kernel
theorem dL_law_859 : decode cL_law 859 = .ok (.iload_n 3, 1) := by decide +kernel
theorem dL_law_860 : decode cL_law 860 = .ok (.iconst 1, 1) := by decide +kernel
theorem dL_law_861 : decode cL_law 861 = .ok (.iadd, 1) := by decide +kernel
theorem dL_law_862 : decode cL_law 862 = .ok (.iaload, 1) := by decide +kernel
theorem dL_law_863 : decode cL_law 863 = .ok (.aload_n 0, 1) := by decide +kernel
theorem dL_law_864 : decode cL_law 864 = .ok (.iload_n 3, 1) := by decide +kernel
theorem dL_law_865 : decode cL_law 865 = .ok (.iconst 2, 1) := by decide +kernel
theorem dL_law_866 : decode cL_law 866 = .ok (.iadd, 1) := by decide +kernel
theorem dL_law_867 : decode cL_law 867 = .ok (.iaload, 1) := by decide +kernel
theorem dL_law_868 : decode cL_law 868 = .ok (.aload_n 0, 1) := by decide +kernel
theorem dL_law_869 : decode cL_law 869 = .ok (.iload_n 3, 1) := by decide +kernel
theorem dL_law_870 : decode cL_law 870 = .ok (.iconst 3, 1) := by decide +kernel
theorem dL_law_871 : decode cL_law 871 = .ok (.iadd, 1) := by decide +kernel
theorem dL_law_872 : decode cL_law 872 = .ok (.iaload, 1) := by decide +kernel
theorem dL_law_873 : decode cL_law 873 = .ok (.invokevirtual 103, 3) := by decide +kernel
theorem dL_law_876 : decode cL_law 876 = .ok (.aload_n 2, 1) := by decide +kernel
theorem dL_law_877 : decode cL_law 877 = .ok (.aload_n 0, 1) := by decide +kernel
theorem dL_law_878 : decode cL_law 878 = .ok (.iload_n 3, 1) := by decide +kernel
theorem dL_law_879 : decode cL_law 879 = .ok (.iconst 1, 1) := by decide +kernel
theorem dL_law_880 : decode cL_law 880 = .ok (.iadd, 1) := by decide +kernel
theorem dL_law_881 : decode cL_law 881 = .ok (.iaload, 1) := by decide +kernel
theorem dL_law_882 : decode cL_law 882 = .ok (.aload_n 0, 1) := by decide +kernel
theorem dL_law_883 : decode cL_law 883 = .ok (.iload_n 3, 1) := by decide +kernel
theorem dL_law_884 : decode cL_law 884 = .ok (.iconst 2, 1) := by decide +kernel
theorem dL_law_885 : decode cL_law 885 = .ok (.iadd, 1) := by decide +kernel
theorem dL_law_886 : decode cL_law 886 = .ok (.iaload, 1) := by decide +kernel
theorem dL_law_887 : decode cL_law 887 = .ok (.aload_n 0, 1) := by decide +kernel
theorem dL_law_888 : decode cL_law 888 = .ok (.iload_n 3, 1) := by decide +kernel
theorem dL_law_889 : decode cL_law 889 = .ok (.iconst 3, 1) := by decide +kernel
theorem dL_law_890 : decode cL_law 890 = .ok (.iadd, 1) := by decide +kernel
theorem dL_law_891 : decode cL_law 891 = .ok (.iaload, 1) := by decide +kernel
theorem dL_law_892 : decode cL_law 892 = .ok (.invokevirtual 106, 3) := by decide +kernel
theorem dL_law_895 : decode cL_law 895 = .ok (.if_icmp .eq 442, 3) := by decide +kernel
theorem dL_law_898 : decode cL_law 898 = .ok (.iconst 0, 1) := by decide +kernel
theorem dL_law_899 : decode cL_law 899 = .ok (.ireturn, 1) := by decide +kernel
theorem dL_law_900 : decode cL_law 900 = .ok (.aload_n 1, 1) := by decide +kernel
theorem dL_law_901 : decode cL_law 901 = .ok (.aload_n 0, 1) := by decide +kernel
theorem dL_law_902 : decode cL_law 902 = .ok (.iload_n 3, 1) := by decide +kernel
theorem dL_law_903 : decode cL_law 903 = .ok (.iconst 1, 1) := by decide +kernel
theorem dL_law_904 : decode cL_law 904 = .ok (.iadd, 1) := by decide +kernel
theorem dL_law_905 : decode cL_law 905 = .ok (.iaload, 1) := by decide +kernel
theorem dL_law_906 : decode cL_law 906 = .ok (.aload_n 0, 1) := by decide +kernel
theorem dL_law_907 : decode cL_law 907 = .ok (.iload_n 3, 1) := by decide +kernel
theorem dL_law_908 : decode cL_law 908 = .ok (.iconst 2, 1) := by decide +kernel
theorem dL_law_909 : decode cL_law 909 = .ok (.iadd, 1) := by decide +kernel
theorem dL_law_910 : decode cL_law 910 = .ok (.iaload, 1) := by decide +kernel
theorem dL_law_911 : decode cL_law 911 = .ok (.invokevirtual 107, 3) := by decide +kernel
theorem dL_law_914 : decode cL_law 914 = .ok (.aload_n 2, 1) := by decide +kernel
theorem dL_law_915 : decode cL_law 915 = .ok (.aload_n 0, 1) := by decide +kernel
theorem dL_law_916 : decode cL_law 916 = .ok (.iload_n 3, 1) := by decide +kernel
theorem dL_law_917 : decode cL_law 917 = .ok (.iconst 1, 1) := by decide +kernel
theorem dL_law_918 : decode cL_law 918 = .ok (.iadd, 1) := by decide +kernel
theorem dL_law_919 : decode cL_law 919 = .ok (.iaload, 1) := by decide +kernel
theorem dL_law_920 : decode cL_law 920 = .ok (.aload_n 0, 1) := by decide +kernel
theorem dL_law_921 : decode cL_law 921 = .ok (.iload_n 3, 1) := by decide +kernel
theorem dL_law_922 : decode cL_law 922 = .ok (.iconst 2, 1) := by decide +kernel
theorem dL_law_923 : decode cL_law 923 = .ok (.iadd, 1) := by decide +kernel
theorem dL_law_924 : decode cL_law 924 = .ok (.iaload, 1) := by decide +kernel
theorem dL_law_925 : decode cL_law 925 = .ok (.invokevirtual 110, 3) := by decide +kernel
theorem dL_law_928 : decode cL_law 928 = .ok (.if_icmp .eq 409, 3) := by decide +kernel
theorem dL_law_931 : decode cL_law 931 = .ok (.iconst 0, 1) := by decide +kernel
theorem dL_law_932 : decode cL_law 932 = .ok (.ireturn, 1) := by decide +kernel
theorem dL_law_933 : decode cL_law 933 = .ok (.aload_n 1, 1) := by decide +kernel
theorem dL_law_934 : decode cL_law 934 = .ok (.aload_n 0, 1) := by decide +kernel
theorem dL_law_935 : decode cL_law 935 = .ok (.iload_n 3, 1) := by decide +kernel
end
section
theorem dL_law_936 : decode cL_law 936 = .ok (.iconst 1, 1) := by decide +kernel
theorem dL_law_937 : decode cL_law 937 = .ok (.iadd, 1) := by decide +kernel
theorem dL_law_938 : decode cL_law 938 = .ok (.iaload, 1) := by decide +kernel
theorem dL_law_939 : decode cL_law 939 = .ok (.aload_n 0, 1) := by decide +kernel
theorem dL_law_940 : decode cL_law 940 = .ok (.iload_n 3, 1) := by decide +kernel
theorem dL_law_941 : decode cL_law 941 = .ok (.iconst 2, 1) := by decide +kernel
theorem dL_law_942 : decode cL_law 942 = .ok (.iadd, 1) := by decide +kernel
theorem dL_law_943 : decode cL_law 943 = .ok (.iaload, 1) := by decide +kernel
theorem dL_law_944 : decode cL_law 944 = .ok (.ifCond .eq 7, 3) := by decide +kernel
theorem dL_law_947 : decode cL_law 947 = .ok (.iconst 1, 1) := by decide +kernel
theorem dL_law_948 : decode cL_law 948 = .ok (.goto 4, 3) := by decide +kernel
theorem dL_law_951 : decode cL_law 951 = .ok (.iconst 0, 1) := by decide +kernel
theorem dL_law_952 : decode cL_law 952 = .ok (.invokevirtual 111, 3) := by decide +kernel
theorem dL_law_955 : decode cL_law 955 = .ok (.aload_n 2, 1) := by decide +kernel
theorem dL_law_956 : decode cL_law 956 = .ok (.aload_n 0, 1) := by decide +kernel
theorem dL_law_957 : decode cL_law 957 = .ok (.iload_n 3, 1) := by decide +kernel
theorem dL_law_958 : decode cL_law 958 = .ok (.iconst 1, 1) := by decide +kernel
theorem dL_law_959 : decode cL_law 959 = .ok (.iadd, 1) := by decide +kernel
theorem dL_law_960 : decode cL_law 960 = .ok (.iaload, 1) := by decide +kernel
theorem dL_law_961 : decode cL_law 961 = .ok (.aload_n 0, 1) := by decide +kernel
theorem dL_law_962 : decode cL_law 962 = .ok (.iload_n 3, 1) := by decide +kernel
theorem dL_law_963 : decode cL_law 963 = .ok (.iconst 2, 1) := by decide +kernel
theorem dL_law_964 : decode cL_law 964 = .ok (.iadd, 1) := by decide +kernel
theorem dL_law_965 : decode cL_law 965 = .ok (.iaload, 1) := by decide +kernel
theorem dL_law_966 : decode cL_law 966 = .ok (.ifCond .eq 7, 3) := by decide +kernel
theorem dL_law_969 : decode cL_law 969 = .ok (.iconst 1, 1) := by decide +kernel
theorem dL_law_970 : decode cL_law 970 = .ok (.goto 4, 3) := by decide +kernel
theorem dL_law_973 : decode cL_law 973 = .ok (.iconst 0, 1) := by decide +kernel
theorem dL_law_974 : decode cL_law 974 = .ok (.invokevirtual 115, 3) := by decide +kernel
theorem dL_law_977 : decode cL_law 977 = .ok (.if_icmp .eq 360, 3) := by decide +kernel
theorem dL_law_980 : decode cL_law 980 = .ok (.iconst 0, 1) := by decide +kernel
theorem dL_law_981 : decode cL_law 981 = .ok (.ireturn, 1) := by decide +kernel
theorem dL_law_982 : decode cL_law 982 = .ok (.aload_n 1, 1) := by decide +kernel
theorem dL_law_983 : decode cL_law 983 = .ok (.aload_n 0, 1) := by decide +kernel
theorem dL_law_984 : decode cL_law 984 = .ok (.iload_n 3, 1) := by decide +kernel
theorem dL_law_985 : decode cL_law 985 = .ok (.iconst 1, 1) := by decide +kernel
theorem dL_law_986 : decode cL_law 986 = .ok (.iadd, 1) := by decide +kernel
theorem dL_law_987 : decode cL_law 987 = .ok (.iaload, 1) := by decide +kernel
theorem dL_law_988 : decode cL_law 988 = .ok (.invokevirtual 116, 3) := by decide +kernel
theorem dL_law_991 : decode cL_law 991 = .ok (.aload_n 2, 1) := by decide +kernel
theorem dL_law_992 : decode cL_law 992 = .ok (.aload_n 0, 1) := by decide +kernel
theorem dL_law_993 : decode cL_law 993 = .ok (.iload_n 3, 1) := by decide +kernel
theorem dL_law_994 : decode cL_law 994 = .ok (.iconst 1, 1) := by decide +kernel
theorem dL_law_995 : decode cL_law 995 = .ok (.iadd, 1) := by decide +kernel
theorem dL_law_996 : decode cL_law 996 = .ok (.iaload, 1) := by decide +kernel
theorem dL_law_997 : decode cL_law 997 = .ok (.invokevirtual 119, 3) := by decide +kernel
theorem dL_law_1000 : decode cL_law 1000 = .ok (.if_icmp .eq 337, 3) := by decide +kernel
theorem dL_law_1003 : decode cL_law 1003 = .ok (.iconst 0, 1) := by decide +kernel
theorem dL_law_1004 : decode cL_law 1004 = .ok (.ireturn, 1) := by decide +kernel
theorem dL_law_1005 : decode cL_law 1005 = .ok (.aload_n 1, 1) := by decide +kernel
theorem dL_law_1006 : decode cL_law 1006 = .ok (.invokevirtual 120, 3) := by decide +kernel
theorem dL_law_1009 : decode cL_law 1009 = .ok (.aload_n 2, 1) := by decide +kernel
theorem dL_law_1010 : decode cL_law 1010 = .ok (.invokevirtual 123, 3) := by decide +kernel
theorem dL_law_1013 : decode cL_law 1013 = .ok (.if_icmp .eq 324, 3) := by decide +kernel
theorem dL_law_1016 : decode cL_law 1016 = .ok (.iconst 0, 1) := by decide +kernel
theorem dL_law_1017 : decode cL_law 1017 = .ok (.ireturn, 1) := by decide +kernel
theorem dL_law_1018 : decode cL_law 1018 = .ok (.aload_n 1, 1) := by decide +kernel
theorem dL_law_1019 : decode cL_law 1019 = .ok (.aload_n 0, 1) := by decide +kernel
theorem dL_law_1020 : decode cL_law 1020 = .ok (.iload_n 3, 1) := by decide +kernel
theorem dL_law_1021 : decode cL_law 1021 = .ok (.iconst 1, 1) := by decide +kernel
theorem dL_law_1022 : decode cL_law 1022 = .ok (.iadd, 1) := by decide +kernel
theorem dL_law_1023 : decode cL_law 1023 = .ok (.iaload, 1) := by decide +kernel
theorem dL_law_1024 : decode cL_law 1024 = .ok (.aload_n 0, 1) := by decide +kernel
theorem dL_law_1025 : decode cL_law 1025 = .ok (.iload_n 3, 1) := by decide +kernel
theorem dL_law_1026 : decode cL_law 1026 = .ok (.iconst 2, 1) := by decide +kernel
theorem dL_law_1027 : decode cL_law 1027 = .ok (.iadd, 1) := by decide +kernel
theorem dL_law_1028 : decode cL_law 1028 = .ok (.iaload, 1) := by decide +kernel
theorem dL_law_1029 : decode cL_law 1029 = .ok (.aload_n 0, 1) := by decide +kernel
theorem dL_law_1030 : decode cL_law 1030 = .ok (.iload_n 3, 1) := by decide +kernel
theorem dL_law_1031 : decode cL_law 1031 = .ok (.iconst 3, 1) := by decide +kernel
theorem dL_law_1032 : decode cL_law 1032 = .ok (.iadd, 1) := by decide +kernel
theorem dL_law_1033 : decode cL_law 1033 = .ok (.iaload, 1) := by decide +kernel
theorem dL_law_1034 : decode cL_law 1034 = .ok (.ifCond .eq 7, 3) := by decide +kernel
theorem dL_law_1037 : decode cL_law 1037 = .ok (.iconst 1, 1) := by decide +kernel
theorem dL_law_1038 : decode cL_law 1038 = .ok (.goto 4, 3) := by decide +kernel
theorem dL_law_1041 : decode cL_law 1041 = .ok (.iconst 0, 1) := by decide +kernel
theorem dL_law_1042 : decode cL_law 1042 = .ok (.invokevirtual 124, 3) := by decide +kernel
theorem dL_law_1045 : decode cL_law 1045 = .ok (.aload_n 2, 1) := by decide +kernel
theorem dL_law_1046 : decode cL_law 1046 = .ok (.aload_n 0, 1) := by decide +kernel
theorem dL_law_1047 : decode cL_law 1047 = .ok (.iload_n 3, 1) := by decide +kernel
theorem dL_law_1048 : decode cL_law 1048 = .ok (.iconst 1, 1) := by decide +kernel
theorem dL_law_1049 : decode cL_law 1049 = .ok (.iadd, 1) := by decide +kernel
theorem dL_law_1050 : decode cL_law 1050 = .ok (.iaload, 1) := by decide +kernel
theorem dL_law_1051 : decode cL_law 1051 = .ok (.aload_n 0, 1) := by decide +kernel
theorem dL_law_1052 : decode cL_law 1052 = .ok (.iload_n 3, 1) := by decide +kernel
theorem dL_law_1053 : decode cL_law 1053 = .ok (.iconst 2, 1) := by decide +kernel
theorem dL_law_1054 : decode cL_law 1054 = .ok (.iadd, 1) := by decide +kernel
theorem dL_law_1055 : decode cL_law 1055 = .ok (.iaload, 1) := by decide +kernel
theorem dL_law_1056 : decode cL_law 1056 = .ok (.aload_n 0, 1) := by decide +kernel
theorem dL_law_1057 : decode cL_law 1057 = .ok (.iload_n 3, 1) := by decide +kernel
theorem dL_law_1058 : decode cL_law 1058 = .ok (.iconst 3, 1) := by decide +kernel
theorem dL_law_1059 : decode cL_law 1059 = .ok (.iadd, 1) := by decide +kernel
theorem dL_law_1060 : decode cL_law 1060 = .ok (.iaload, 1) := by decide +kernel
theorem dL_law_1061 : decode cL_law 1061 = .ok (.ifCond .eq 7, 3) := by decide +kernel
theorem dL_law_1064 : decode cL_law 1064 = .ok (.iconst 1, 1) := by decide +kernel
theorem dL_law_1065 : decode cL_law 1065 = .ok (.goto 4, 3) := by decide +kernel
theorem dL_law_1068 : decode cL_law 1068 = .ok (.iconst 0, 1) := by decide +kernel
theorem dL_law_1069 : decode cL_law 1069 = .ok (.invokevirtual 127, 3) := by decide +kernel
theorem dL_law_1072 : decode cL_law 1072 = .ok (.if_icmp .eq 265, 3) := by decide +kernel
theorem dL_law_1075 : decode cL_law 1075 = .ok (.iconst 0, 1) := by decide +kernel
theorem dL_law_1076 : decode cL_law 1076 = .ok (.ireturn, 1) := by decide +kernel
theorem dL_law_1077 : decode cL_law 1077 = .ok (.aload_n 1, 1) := by decide +kernel
theorem dL_law_1078 : decode cL_law 1078 = .ok (.aload_n 0, 1) := by decide +kernel
theorem dL_law_1079 : decode cL_law 1079 = .ok (.iload_n 3, 1) := by decide +kernel
theorem dL_law_1080 : decode cL_law 1080 = .ok (.iconst 1, 1) := by decide +kernel
theorem dL_law_1081 : decode cL_law 1081 = .ok (.iadd, 1) := by decide +kernel
theorem dL_law_1082 : decode cL_law 1082 = .ok (.iaload, 1) := by decide +kernel
theorem dL_law_1083 : decode cL_law 1083 = .ok (.aload_n 0, 1) := by decide +kernel
theorem dL_law_1084 : decode cL_law 1084 = .ok (.iload_n 3, 1) := by decide +kernel
theorem dL_law_1085 : decode cL_law 1085 = .ok (.iconst 2, 1) := by decide +kernel
theorem dL_law_1086 : decode cL_law 1086 = .ok (.iadd, 1) := by decide +kernel
theorem dL_law_1087 : decode cL_law 1087 = .ok (.iaload, 1) := by decide +kernel
theorem dL_law_1088 : decode cL_law 1088 = .ok (.aload_n 0, 1) := by decide +kernel
theorem dL_law_1089 : decode cL_law 1089 = .ok (.iload_n 3, 1) := by decide +kernel
theorem dL_law_1090 : decode cL_law 1090 = .ok (.iconst 3, 1) := by decide +kernel
theorem dL_law_1091 : decode cL_law 1091 = .ok (.iadd, 1) := by decide +kernel
theorem dL_law_1092 : decode cL_law 1092 = .ok (.iaload, 1) := by decide +kernel
theorem dL_law_1093 : decode cL_law 1093 = .ok (.aload_n 0, 1) := by decide +kernel
theorem dL_law_1094 : decode cL_law 1094 = .ok (.iload_n 3, 1) := by decide +kernel
theorem dL_law_1095 : decode cL_law 1095 = .ok (.iconst 4, 1) := by decide +kernel
theorem dL_law_1096 : decode cL_law 1096 = .ok (.iadd, 1) := by decide +kernel
theorem dL_law_1097 : decode cL_law 1097 = .ok (.iaload, 1) := by decide +kernel
theorem dL_law_1098 : decode cL_law 1098 = .ok (.invokevirtual 128, 3) := by decide +kernel
theorem dL_law_1101 : decode cL_law 1101 = .ok (.aload_n 2, 1) := by decide +kernel
theorem dL_law_1102 : decode cL_law 1102 = .ok (.aload_n 0, 1) := by decide +kernel
theorem dL_law_1103 : decode cL_law 1103 = .ok (.iload_n 3, 1) := by decide +kernel
theorem dL_law_1104 : decode cL_law 1104 = .ok (.iconst 1, 1) := by decide +kernel
theorem dL_law_1105 : decode cL_law 1105 = .ok (.iadd, 1) := by decide +kernel
theorem dL_law_1106 : decode cL_law 1106 = .ok (.iaload, 1) := by decide +kernel
theorem dL_law_1107 : decode cL_law 1107 = .ok (.aload_n 0, 1) := by decide +kernel
theorem dL_law_1108 : decode cL_law 1108 = .ok (.iload_n 3, 1) := by decide +kernel
theorem dL_law_1109 : decode cL_law 1109 = .ok (.iconst 2, 1) := by decide +kernel
theorem dL_law_1110 : decode cL_law 1110 = .ok (.iadd, 1) := by decide +kernel
theorem dL_law_1111 : decode cL_law 1111 = .ok (.iaload, 1) := by decide +kernel
theorem dL_law_1112 : decode cL_law 1112 = .ok (.aload_n 0, 1) := by decide +kernel
theorem dL_law_1113 : decode cL_law 1113 = .ok (.iload_n 3, 1) := by decide +kernel
theorem dL_law_1114 : decode cL_law 1114 = .ok (.iconst 3, 1) := by decide +kernel
theorem dL_law_1115 : decode cL_law 1115 = .ok (.iadd, 1) := by decide +kernel
theorem dL_law_1116 : decode cL_law 1116 = .ok (.iaload, 1) := by decide +kernel
theorem dL_law_1117 : decode cL_law 1117 = .ok (.aload_n 0, 1) := by decide +kernel
theorem dL_law_1118 : decode cL_law 1118 = .ok (.iload_n 3, 1) := by decide +kernel
theorem dL_law_1119 : decode cL_law 1119 = .ok (.iconst 4, 1) := by decide +kernel
theorem dL_law_1120 : decode cL_law 1120 = .ok (.iadd, 1) := by decide +kernel
theorem dL_law_1121 : decode cL_law 1121 = .ok (.iaload, 1) := by decide +kernel
theorem dL_law_1122 : decode cL_law 1122 = .ok (.invokevirtual 132, 3) := by decide +kernel
theorem dL_law_1125 : decode cL_law 1125 = .ok (.if_icmp .eq 212, 3) := by decide +kernel
theorem dL_law_1128 : decode cL_law 1128 = .ok (.iconst 0, 1) := by decide +kernel
theorem dL_law_1129 : decode cL_law 1129 = .ok (.ireturn, 1) := by decide +kernel
theorem dL_law_1130 : decode cL_law 1130 = .ok (.aload_n 1, 1) := by decide +kernel
theorem dL_law_1131 : decode cL_law 1131 = .ok (.aload_n 0, 1) := by decide +kernel
theorem dL_law_1132 : decode cL_law 1132 = .ok (.iload_n 3, 1) := by decide +kernel
theorem dL_law_1133 : decode cL_law 1133 = .ok (.iconst 1, 1) := by decide +kernel
theorem dL_law_1134 : decode cL_law 1134 = .ok (.iadd, 1) := by decide +kernel
theorem dL_law_1135 : decode cL_law 1135 = .ok (.iaload, 1) := by decide +kernel
theorem dL_law_1136 : decode cL_law 1136 = .ok (.aload_n 0, 1) := by decide +kernel
theorem dL_law_1137 : decode cL_law 1137 = .ok (.iload_n 3, 1) := by decide +kernel
theorem dL_law_1138 : decode cL_law 1138 = .ok (.iconst 2, 1) := by decide +kernel
theorem dL_law_1139 : decode cL_law 1139 = .ok (.iadd, 1) := by decide +kernel
theorem dL_law_1140 : decode cL_law 1140 = .ok (.iaload, 1) := by decide +kernel
theorem dL_law_1141 : decode cL_law 1141 = .ok (.aload_n 0, 1) := by decide +kernel
theorem dL_law_1142 : decode cL_law 1142 = .ok (.iload_n 3, 1) := by decide +kernel
theorem dL_law_1143 : decode cL_law 1143 = .ok (.iconst 3, 1) := by decide +kernel
theorem dL_law_1144 : decode cL_law 1144 = .ok (.iadd, 1) := by decide +kernel
theorem dL_law_1145 : decode cL_law 1145 = .ok (.iaload, 1) := by decide +kernel
theorem dL_law_1146 : decode cL_law 1146 = .ok (.aload_n 0, 1) := by decide +kernel
theorem dL_law_1147 : decode cL_law 1147 = .ok (.iload_n 3, 1) := by decide +kernel
theorem dL_law_1148 : decode cL_law 1148 = .ok (.iconst 4, 1) := by decide +kernel
theorem dL_law_1149 : decode cL_law 1149 = .ok (.iadd, 1) := by decide +kernel
theorem dL_law_1150 : decode cL_law 1150 = .ok (.iaload, 1) := by decide +kernel
theorem dL_law_1151 : decode cL_law 1151 = .ok (.aload_n 0, 1) := by decide +kernel
theorem dL_law_1152 : decode cL_law 1152 = .ok (.iload_n 3, 1) := by decide +kernel
theorem dL_law_1153 : decode cL_law 1153 = .ok (.iconst 5, 1) := by decide +kernel
theorem dL_law_1154 : decode cL_law 1154 = .ok (.iadd, 1) := by decide +kernel
theorem dL_law_1155 : decode cL_law 1155 = .ok (.iaload, 1) := by decide +kernel
theorem dL_law_1156 : decode cL_law 1156 = .ok (.invokevirtual 133, 3) := by decide +kernel
theorem dL_law_1159 : decode cL_law 1159 = .ok (.aload_n 2, 1) := by decide +kernel
theorem dL_law_1160 : decode cL_law 1160 = .ok (.aload_n 0, 1) := by decide +kernel
theorem dL_law_1161 : decode cL_law 1161 = .ok (.iload_n 3, 1) := by decide +kernel
theorem dL_law_1162 : decode cL_law 1162 = .ok (.iconst 1, 1) := by decide +kernel
theorem dL_law_1163 : decode cL_law 1163 = .ok (.iadd, 1) := by decide +kernel
theorem dL_law_1164 : decode cL_law 1164 = .ok (.iaload, 1) := by decide +kernel
theorem dL_law_1165 : decode cL_law 1165 = .ok (.aload_n 0, 1) := by decide +kernel
theorem dL_law_1166 : decode cL_law 1166 = .ok (.iload_n 3, 1) := by decide +kernel
theorem dL_law_1167 : decode cL_law 1167 = .ok (.iconst 2, 1) := by decide +kernel
theorem dL_law_1168 : decode cL_law 1168 = .ok (.iadd, 1) := by decide +kernel
theorem dL_law_1169 : decode cL_law 1169 = .ok (.iaload, 1) := by decide +kernel
theorem dL_law_1170 : decode cL_law 1170 = .ok (.aload_n 0, 1) := by decide +kernel
theorem dL_law_1171 : decode cL_law 1171 = .ok (.iload_n 3, 1) := by decide +kernel
theorem dL_law_1172 : decode cL_law 1172 = .ok (.iconst 3, 1) := by decide +kernel
theorem dL_law_1173 : decode cL_law 1173 = .ok (.iadd, 1) := by decide +kernel
theorem dL_law_1174 : decode cL_law 1174 = .ok (.iaload, 1) := by decide +kernel
theorem dL_law_1175 : decode cL_law 1175 = .ok (.aload_n 0, 1) := by decide +kernel
theorem dL_law_1176 : decode cL_law 1176 = .ok (.iload_n 3, 1) := by decide +kernel
theorem dL_law_1177 : decode cL_law 1177 = .ok (.iconst 4, 1) := by decide +kernel
theorem dL_law_1178 : decode cL_law 1178 = .ok (.iadd, 1) := by decide +kernel
theorem dL_law_1179 : decode cL_law 1179 = .ok (.iaload, 1) := by decide +kernel
theorem dL_law_1180 : decode cL_law 1180 = .ok (.aload_n 0, 1) := by decide +kernel
theorem dL_law_1181 : decode cL_law 1181 = .ok (.iload_n 3, 1) := by decide +kernel
theorem dL_law_1182 : decode cL_law 1182 = .ok (.iconst 5, 1) := by decide +kernel
theorem dL_law_1183 : decode cL_law 1183 = .ok (.iadd, 1) := by decide +kernel
theorem dL_law_1184 : decode cL_law 1184 = .ok (.iaload, 1) := by decide +kernel
theorem dL_law_1185 : decode cL_law 1185 = .ok (.invokevirtual 136, 3) := by decide +kernel
theorem dL_law_1188 : decode cL_law 1188 = .ok (.if_icmp .eq 149, 3) := by decide +kernel
theorem dL_law_1191 : decode cL_law 1191 = .ok (.iconst 0, 1) := by decide +kernel
theorem dL_law_1192 : decode cL_law 1192 = .ok (.ireturn, 1) := by decide +kernel
theorem dL_law_1193 : decode cL_law 1193 = .ok (.aload_n 1, 1) := by decide +kernel
theorem dL_law_1194 : decode cL_law 1194 = .ok (.invokevirtual 137, 3) := by decide +kernel
theorem dL_law_1197 : decode cL_law 1197 = .ok (.aload_n 2, 1) := by decide +kernel
theorem dL_law_1198 : decode cL_law 1198 = .ok (.invokevirtual 140, 3) := by decide +kernel
theorem dL_law_1201 : decode cL_law 1201 = .ok (.if_icmp .eq 136, 3) := by decide +kernel
theorem dL_law_1204 : decode cL_law 1204 = .ok (.iconst 0, 1) := by decide +kernel
theorem dL_law_1205 : decode cL_law 1205 = .ok (.ireturn, 1) := by decide +kernel
theorem dL_law_1206 : decode cL_law 1206 = .ok (.aload_n 1, 1) := by decide +kernel
theorem dL_law_1207 : decode cL_law 1207 = .ok (.invokevirtual 141, 3) := by decide +kernel
theorem dL_law_1210 : decode cL_law 1210 = .ok (.aload_n 2, 1) := by decide +kernel
theorem dL_law_1211 : decode cL_law 1211 = .ok (.invokevirtual 144, 3) := by decide +kernel
theorem dL_law_1214 : decode cL_law 1214 = .ok (.if_icmp .eq 123, 3) := by decide +kernel
theorem dL_law_1217 : decode cL_law 1217 = .ok (.iconst 0, 1) := by decide +kernel
theorem dL_law_1218 : decode cL_law 1218 = .ok (.ireturn, 1) := by decide +kernel
theorem dL_law_1219 : decode cL_law 1219 = .ok (.aload_n 1, 1) := by decide +kernel
theorem dL_law_1220 : decode cL_law 1220 = .ok (.aload_n 0, 1) := by decide +kernel
theorem dL_law_1221 : decode cL_law 1221 = .ok (.iload_n 3, 1) := by decide +kernel
theorem dL_law_1222 : decode cL_law 1222 = .ok (.iconst 1, 1) := by decide +kernel
theorem dL_law_1223 : decode cL_law 1223 = .ok (.iadd, 1) := by decide +kernel
theorem dL_law_1224 : decode cL_law 1224 = .ok (.iaload, 1) := by decide +kernel
theorem dL_law_1225 : decode cL_law 1225 = .ok (.aload_n 0, 1) := by decide +kernel
theorem dL_law_1226 : decode cL_law 1226 = .ok (.iload_n 3, 1) := by decide +kernel
theorem dL_law_1227 : decode cL_law 1227 = .ok (.iconst 2, 1) := by decide +kernel
theorem dL_law_1228 : decode cL_law 1228 = .ok (.iadd, 1) := by decide +kernel
theorem dL_law_1229 : decode cL_law 1229 = .ok (.iaload, 1) := by decide +kernel
theorem dL_law_1230 : decode cL_law 1230 = .ok (.ifCond .eq 7, 3) := by decide +kernel
theorem dL_law_1233 : decode cL_law 1233 = .ok (.iconst 1, 1) := by decide +kernel
theorem dL_law_1234 : decode cL_law 1234 = .ok (.goto 4, 3) := by decide +kernel
theorem dL_law_1237 : decode cL_law 1237 = .ok (.iconst 0, 1) := by decide +kernel
theorem dL_law_1238 : decode cL_law 1238 = .ok (.invokevirtual 145, 3) := by decide +kernel
theorem dL_law_1241 : decode cL_law 1241 = .ok (.aload_n 2, 1) := by decide +kernel
theorem dL_law_1242 : decode cL_law 1242 = .ok (.aload_n 0, 1) := by decide +kernel
theorem dL_law_1243 : decode cL_law 1243 = .ok (.iload_n 3, 1) := by decide +kernel
theorem dL_law_1244 : decode cL_law 1244 = .ok (.iconst 1, 1) := by decide +kernel
theorem dL_law_1245 : decode cL_law 1245 = .ok (.iadd, 1) := by decide +kernel
theorem dL_law_1246 : decode cL_law 1246 = .ok (.iaload, 1) := by decide +kernel
theorem dL_law_1247 : decode cL_law 1247 = .ok (.aload_n 0, 1) := by decide +kernel
theorem dL_law_1248 : decode cL_law 1248 = .ok (.iload_n 3, 1) := by decide +kernel
theorem dL_law_1249 : decode cL_law 1249 = .ok (.iconst 2, 1) := by decide +kernel
theorem dL_law_1250 : decode cL_law 1250 = .ok (.iadd, 1) := by decide +kernel
theorem dL_law_1251 : decode cL_law 1251 = .ok (.iaload, 1) := by decide +kernel
theorem dL_law_1252 : decode cL_law 1252 = .ok (.ifCond .eq 7, 3) := by decide +kernel
theorem dL_law_1255 : decode cL_law 1255 = .ok (.iconst 1, 1) := by decide +kernel
theorem dL_law_1256 : decode cL_law 1256 = .ok (.goto 4, 3) := by decide +kernel
theorem dL_law_1259 : decode cL_law 1259 = .ok (.iconst 0, 1) := by decide +kernel
theorem dL_law_1260 : decode cL_law 1260 = .ok (.invokevirtual 148, 3) := by decide +kernel
theorem dL_law_1263 : decode cL_law 1263 = .ok (.if_icmp .eq 74, 3) := by decide +kernel
theorem dL_law_1266 : decode cL_law 1266 = .ok (.iconst 0, 1) := by decide +kernel
theorem dL_law_1267 : decode cL_law 1267 = .ok (.ireturn, 1) := by decide +kernel
theorem dL_law_1268 : decode cL_law 1268 = .ok (.aload_n 1, 1) := by decide +kernel
theorem dL_law_1269 : decode cL_law 1269 = .ok (.aload_n 0, 1) := by decide +kernel
theorem dL_law_1270 : decode cL_law 1270 = .ok (.iload_n 3, 1) := by decide +kernel
theorem dL_law_1271 : decode cL_law 1271 = .ok (.iconst 1, 1) := by decide +kernel
theorem dL_law_1272 : decode cL_law 1272 = .ok (.iadd, 1) := by decide +kernel
theorem dL_law_1273 : decode cL_law 1273 = .ok (.iaload, 1) := by decide +kernel
theorem dL_law_1274 : decode cL_law 1274 = .ok (.invokevirtual 149, 3) := by decide +kernel
theorem dL_law_1277 : decode cL_law 1277 = .ok (.aload_n 2, 1) := by decide +kernel
theorem dL_law_1278 : decode cL_law 1278 = .ok (.aload_n 0, 1) := by decide +kernel
theorem dL_law_1279 : decode cL_law 1279 = .ok (.iload_n 3, 1) := by decide +kernel
theorem dL_law_1280 : decode cL_law 1280 = .ok (.iconst 1, 1) := by decide +kernel
theorem dL_law_1281 : decode cL_law 1281 = .ok (.iadd, 1) := by decide +kernel
theorem dL_law_1282 : decode cL_law 1282 = .ok (.iaload, 1) := by decide +kernel
theorem dL_law_1283 : decode cL_law 1283 = .ok (.invokevirtual 152, 3) := by decide +kernel
theorem dL_law_1286 : decode cL_law 1286 = .ok (.if_icmp .eq 51, 3) := by decide +kernel
theorem dL_law_1289 : decode cL_law 1289 = .ok (.iconst 0, 1) := by decide +kernel
theorem dL_law_1290 : decode cL_law 1290 = .ok (.ireturn, 1) := by decide +kernel
theorem dL_law_1291 : decode cL_law 1291 = .ok (.aload_n 1, 1) := by decide +kernel
theorem dL_law_1292 : decode cL_law 1292 = .ok (.aload_n 0, 1) := by decide +kernel
theorem dL_law_1293 : decode cL_law 1293 = .ok (.iload_n 3, 1) := by decide +kernel
theorem dL_law_1294 : decode cL_law 1294 = .ok (.iconst 1, 1) := by decide +kernel
theorem dL_law_1295 : decode cL_law 1295 = .ok (.iadd, 1) := by decide +kernel
theorem dL_law_1296 : decode cL_law 1296 = .ok (.iaload, 1) := by decide +kernel
theorem dL_law_1297 : decode cL_law 1297 = .ok (.invokevirtual 153, 3) := by decide +kernel
theorem dL_law_1300 : decode cL_law 1300 = .ok (.aload_n 2, 1) := by decide +kernel
theorem dL_law_1301 : decode cL_law 1301 = .ok (.aload_n 0, 1) := by decide +kernel
theorem dL_law_1302 : decode cL_law 1302 = .ok (.iload_n 3, 1) := by decide +kernel
theorem dL_law_1303 : decode cL_law 1303 = .ok (.iconst 1, 1) := by decide +kernel
theorem dL_law_1304 : decode cL_law 1304 = .ok (.iadd, 1) := by decide +kernel
theorem dL_law_1305 : decode cL_law 1305 = .ok (.iaload, 1) := by decide +kernel
theorem dL_law_1306 : decode cL_law 1306 = .ok (.invokevirtual 156, 3) := by decide +kernel
theorem dL_law_1309 : decode cL_law 1309 = .ok (.if_icmp .eq 28, 3) := by decide +kernel
theorem dL_law_1312 : decode cL_law 1312 = .ok (.iconst 0, 1) := by decide +kernel
theorem dL_law_1313 : decode cL_law 1313 = .ok (.ireturn, 1) := by decide +kernel
theorem dL_law_1314 : decode cL_law 1314 = .ok (.aload_n 1, 1) := by decide +kernel
theorem dL_law_1315 : decode cL_law 1315 = .ok (.aload_n 0, 1) := by decide +kernel
theorem dL_law_1316 : decode cL_law 1316 = .ok (.iload_n 3, 1) := by decide +kernel
theorem dL_law_1317 : decode cL_law 1317 = .ok (.iconst 1, 1) := by decide +kernel
theorem dL_law_1318 : decode cL_law 1318 = .ok (.iadd, 1) := by decide +kernel
theorem dL_law_1319 : decode cL_law 1319 = .ok (.iaload, 1) := by decide +kernel
theorem dL_law_1320 : decode cL_law 1320 = .ok (.invokevirtual 157, 3) := by decide +kernel
theorem dL_law_1323 : decode cL_law 1323 = .ok (.aload_n 2, 1) := by decide +kernel
theorem dL_law_1324 : decode cL_law 1324 = .ok (.aload_n 0, 1) := by decide +kernel
theorem dL_law_1325 : decode cL_law 1325 = .ok (.iload_n 3, 1) := by decide +kernel
theorem dL_law_1326 : decode cL_law 1326 = .ok (.iconst 1, 1) := by decide +kernel
theorem dL_law_1327 : decode cL_law 1327 = .ok (.iadd, 1) := by decide +kernel
theorem dL_law_1328 : decode cL_law 1328 = .ok (.iaload, 1) := by decide +kernel
theorem dL_law_1329 : decode cL_law 1329 = .ok (.invokevirtual 160, 3) := by decide +kernel
theorem dL_law_1332 : decode cL_law 1332 = .ok (.if_icmp .eq 5, 3) := by decide +kernel
theorem dL_law_1335 : decode cL_law 1335 = .ok (.iconst 0, 1) := by decide +kernel
theorem dL_law_1336 : decode cL_law 1336 = .ok (.ireturn, 1) := by decide +kernel
theorem dL_law_1337 : decode cL_law 1337 = .ok (.iinc 3 6, 3) := by decide +kernel
theorem dL_law_1340 : decode cL_law 1340 = .ok (.goto (-1322), 3) := by decide +kernel
theorem dL_law_1343 : decode cL_law 1343 = .ok (.iconst 1, 1) := by decide +kernel
theorem dL_law_1344 : decode cL_law 1344 = .ok (.ireturn, 1) := by decide +kernel
end
section
/-! numbers: every int of the walk is iI of an integer, every long lI of one -/
def iI (x : Int) : Int32 := Int32.ofInt x
def lI (x : Int) : Int64 := Int64.ofInt x
theorem iI_add (a b : Int) : iI a + iI b = iI (a + b) := (Int32.ofInt_add a b).symm
theorem iI_sub (a b : Int) : iI a - iI b = iI (a - b) := (Int32.ofInt_sub a b).symm
theorem iI_mul (a b : Int) : iI a * iI b = iI (a * b) := (Int32.ofInt_mul a b).symm
theorem iI_neg (a : Int) : -iI a = iI (-a) := (Int32.ofInt_neg a).symm
theorem lI_mul (a b : Int) : lI a * lI b = lI (a * b) := (Int64.ofInt_mul a b).symm
theorem iI_toInt {a : Int} (h1 : -2147483648 ≤ a) (h2 : a ≤ 2147483647) : (iI a).toInt = a := Int32.toInt_ofInt_of_le (by omega) (by omega)
theorem lI_toInt {a : Int} (h1 : -9223372036854775808 ≤ a) (h2 : a ≤ 9223372036854775807) : (lI a).toInt = a := Int64.toInt_ofInt_of_le (by omega) (by omega)
def sm (x : Int) : Prop := -2147483648 ≤ x ∧ x ≤ 2147483647
def sL (x : Int) : Prop := -9223372036854775808 ≤ x ∧ x ≤ 9223372036854775807
theorem iI_le {a b : Int} (ha : sm a) (hb : sm b) : iI a ≤ iI b ↔ a ≤ b := by rw [Int32.le_iff_toInt_le, iI_toInt ha.1 ha.2, iI_toInt hb.1 hb.2]
theorem iI_lt {a b : Int} (ha : sm a) (hb : sm b) : iI a < iI b ↔ a < b := by rw [Int32.lt_iff_toInt_lt, iI_toInt ha.1 ha.2, iI_toInt hb.1 hb.2]
theorem iI_eq {a b : Int} (ha : sm a) (hb : sm b) : iI a = iI b ↔ a = b := by rw [← Int32.toInt_inj, iI_toInt ha.1 ha.2, iI_toInt hb.1 hb.2]
theorem lI_le {a b : Int} (ha : sL a) (hb : sL b) : lI a ≤ lI b ↔ a ≤ b := by rw [Int64.le_iff_toInt_le, lI_toInt ha.1 ha.2, lI_toInt hb.1 hb.2]
theorem lI_lt {a b : Int} (ha : sL a) (hb : sL b) : lI a < lI b ↔ a < b := by rw [Int64.lt_iff_toInt_lt, lI_toInt ha.1 ha.2, lI_toInt hb.1 hb.2]
theorem lI_eq {a b : Int} (ha : sL a) (hb : sL b) : lI a = lI b ↔ a = b := by rw [← Int64.toInt_inj, lI_toInt ha.1 ha.2, lI_toInt hb.1 hb.2]
theorem iI_zero : (0 : Int32) = iI 0 := rfl
theorem sm0 : sm 0 := ⟨by omega, by omega⟩
theorem iI_nat {a : Int} (h0 : 0 ≤ a) (h : a ≤ 2147483647) : (iI a).toNatClampNeg = a.toNat := by
  rw [← Int32.toNat_toInt, iI_toInt (by omega) h]
theorem iI_in {a : Int} {n : Nat} (h0 : 0 ≤ a) (h : a < n) (hn : n < 2147483648) : vp_in (iI a) n := by
  rw [vp_in_iff, iI_toInt (by omega) (by omega)]
  exact ⟨h0, h⟩
theorem iI_of (x : Int32) : iI x.toInt = x := Int32.ofInt_toInt x
theorem lI_of (x : Int64) : lI x.toInt = x := Int64.ofInt_toInt x
theorem sm_of (x : Int32) : sm x.toInt := ⟨by have := x.le_toInt; omega, by have := x.toInt_lt; omega⟩
theorem sL_of (x : Int64) : sL x.toInt := ⟨by have := x.le_toInt; omega, by have := x.toInt_lt; omega⟩
theorem iI_div {a b : Int} (h0 : 0 ≤ a) (ha : a ≤ 2147483647) (hb : 0 < b) (hb2 : b ≤ 2147483647) : iI a / iI b = iI (a / b) := by
  have hq : a / b ≤ a := Int.ediv_le_self _ h0
  have hq0 : 0 ≤ a / b := Int.ediv_nonneg h0 (by omega)
  rw [← Int32.toInt_inj, Int32.toInt_div, iI_toInt (by omega) ha, iI_toInt (by omega) hb2, iI_toInt (by omega) (by omega), Int.tdiv_eq_ediv_of_nonneg h0]
  exact Int.bmod_eq_of_le (by omega) (by omega)
theorem iI_rem {a b : Int} (h0 : 0 ≤ a) (ha : a ≤ 2147483647) (hb : 0 < b) (hb2 : b ≤ 2147483647) : iI a - iI a / iI b * iI b = iI (a % b) := by
  rw [iI_div h0 ha hb hb2, iI_mul, iI_sub, Int.emod_def, Int.mul_comm]
theorem lI_div {a b : Int} (h0 : 0 ≤ a) (ha : a ≤ 9223372036854775807) (hb : 0 < b) (hb2 : b ≤ 9223372036854775807) : lI a / lI b = lI (a / b) := by
  have hq : a / b ≤ a := Int.ediv_le_self _ h0
  have hq0 : 0 ≤ a / b := Int.ediv_nonneg h0 (by omega)
  rw [← Int64.toInt_inj, Int64.toInt_div, lI_toInt (by omega) ha, lI_toInt (by omega) hb2, lI_toInt (by omega) (by omega), Int.tdiv_eq_ediv_of_nonneg h0]
  exact Int.bmod_eq_of_le (by omega) (by omega)
theorem lI_rem {a b : Int} (h0 : 0 ≤ a) (ha : a ≤ 9223372036854775807) (hb : 0 < b) (hb2 : b ≤ 9223372036854775807) : lI a - lI a / lI b * lI b = lI (a % b) := by
  rw [lI_div h0 ha hb hb2, lI_mul, Int.emod_def, Int.mul_comm]
  exact (Int64.ofInt_sub _ _).symm
theorem iI_l {a : Int} (h : sm a) : (iI a).toInt64 = lI a := Int32.toInt64_ofInt h.1 h.2
theorem lI_i (a : Int) : (lI a).toInt32 = iI a := Int64.toInt32_ofInt
/-- of two like numbers 0, else -1 or 1 -/
def cmpI (a b : Int) : Int := if a < b then -1 else if a = b then 0 else 1
theorem cmpI_sm (a b : Int) : sm (cmpI a b) := by
  unfold cmpI sm
  split
  · omega
  · split <;> omega
theorem cmpI_lt (a b : Int) : cmpI a b < 0 ↔ a < b := by
  unfold cmpI
  split
  · omega
  · split <;> omega
theorem cmpI_le (a b : Int) : cmpI a b ≤ 0 ↔ a ≤ b := by
  unfold cmpI
  split
  · omega
  · split <;> omega
theorem cmpI_eq (a b : Int) : cmpI a b = 0 ↔ a = b := by
  unfold cmpI
  split
  · omega
  · split <;> omega
theorem lI_cmp {a b : Int} (ha : sL a) (hb : sL b) : lg_cmp (lI a) (lI b) = iI (cmpI a b) := by
  unfold lg_cmp cmpI
  by_cases h : a < b
  · rw [if_pos h]; simp [lI_lt ha hb, lI_eq ha hb, lI_lt hb ha, show ¬ b < a by omega, show ¬ a = b by omega, h]; try rfl
  · rw [if_neg h]
    by_cases h2 : a = b
    · subst h2
      simp [lI_lt ha ha]
      try rfl
    · rw [if_neg h2]
      simp [lI_lt ha hb, lI_eq ha hb, lI_lt hb ha, h, h2, show b < a by omega]
      try rfl
/-- a condition as 1 or 0 -/
def bI (P : Prop) [Decidable P] : Int := if P then 1 else 0
theorem bI_t {P : Prop} [Decidable P] (h : P) : bI P = 1 := if_pos h
theorem bI_f {P : Prop} [Decidable P] (h : ¬ P) : bI P = 0 := if_neg h
theorem bI_0 {P : Prop} [Decidable P] : bI P = 0 ↔ ¬ P := by
  unfold bI
  by_cases h : P <;> simp [h]
theorem bI_01 {P : Prop} [Decidable P] : 0 ≤ bI P ∧ bI P ≤ 1 := by
  unfold bI
  by_cases h : P <;> simp [h]
theorem bI_c {P Q : Prop} [Decidable P] [Decidable Q] (h : P ↔ Q) : bI P = bI Q := by
  unfold bI
  by_cases hp : P
  · rw [if_pos hp, if_pos (h.mp hp)]
  · rw [if_neg hp, if_neg (fun q => hp (h.mpr q))]
/-- f, but v at k -/
def up {α : Type} (f : Nat → α) (k : Nat) (v : α) : Nat → α := fun j => if j = k then v else f j
/-- f, but x at i -/
def uI (f : Int → Int) (i x : Int) : Int → Int := fun j => if j = i then x else f j
theorem uI_s (f : Int → Int) (i x : Int) : uI f i x i = x := if_pos rfl
theorem uI_n (f : Int → Int) {i j : Int} (x : Int) (h : j ≠ i) : uI f i x j = f j := if_neg h
/-- a row of ints -/
def aI (cA : ClassId) (n : Nat) (f : Int → Int) : va_E := .inl (cA, n, .inl (fun j => iI (f (j : Int))))
/-- a row of cells -/
def aR (cA : ClassId) (n : Nat) (f : Nat → Option Nat) : va_E := .inl (cA, n, .inr (.inr (.inr (.inr f))))
def TYs (d : Nat → ClassId) : List (ClassId × FieldType) := [(d 0, .int), (d 1, .boolean), (d 2, .object "BuyersArm$Stand"), (d 3, .array .int)]
/-- the places of a world -/
def inW (ws : va_W) (q : Nat) : Prop := ∃ (k : Nat) (e : va_E), ws[k]? = some (q, e)
section VV
variable {p : Program} {l : Launch} {e : Env} {R : Room} {s : State} {m : MethodId} {args : Array Value} {below : List Frame} {meth : Method} {c : Code} {A : Nat → Prop} {D : va_G} {d : Nat → ClassId} {Q : State → Prop} {cc : ByteArray} {nL : Nat} {own : String} {cells slots : Nat} {ws : va_W} {lv : List (Nat × Value)} {pc : Nat} {st : List Value}
/-- the machine at pc, with the world ws, the locals lv, the stack st, comes to Q -/
def V (p : Program) (l : Launch) (e : Env) (R : Room) (s : State) (m : MethodId) (args : Array Value) (below : List Frame) (meth : Method) (c : Code) (A : Nat → Prop) (D : va_G) (Q : State → Prop) (nL cells slots : Nat) (ws : va_W) (lv : List (Nat × Value)) (pc : Nat) (st : List Value) : Prop :=
  ∀ (H : Heap) (locs : List Loc) (ls : Array Slot), va_P D vwCl ws H → va_D A ws → va_S A s.heap H locs → lv_has ls nL lv → W p l e R s m args below meth c H locs cells slots Q (F0 m pc ls st)
def CX (p : Program) (s : State) (m : MethodId) (args : Array Value) (c : Code) (D : va_G) (d : Nat → ClassId) (cc : ByteArray) (nL : Nat) (own : String) : Prop :=
  p.tables.exec = Jvm.exec ∧ c.code = cc ∧ c.maxLocals = nL ∧ s.vm.findClass own = some m.cls ∧ (∀ w ∈ gtb, w.before args s = true) ∧ va_K D vwCl (TYs d) s
theorem V_iconst {n : Int} (C : CX p s m args c D d cc nL own) (hdg : decode cc pc = .ok (.iconst n, 1)) (kk : V p l e R s m args below meth c A D Q nL cells slots ws lv (pc + 1) (.int (iI n) :: st)) : V p l e R s m args below meth c A D Q nL cells slots ws lv pc st :=
  fun H locs ls hP hD hS hl => lv_iconst C.1 C.2.1 hdg rfl (kk H locs ls hP hD hS hl)
theorem V_bipush {n : Int} (C : CX p s m args c D d cc nL own) (hdg : decode cc pc = .ok (.bipush n, 2)) (hn : (Int8.ofInt n).toInt32 = iI n) (kk : V p l e R s m args below meth c A D Q nL cells slots ws lv (pc + 2) (.int (iI n) :: st)) : V p l e R s m args below meth c A D Q nL cells slots ws lv pc st :=
  fun H locs ls hP hD hS hl => lv_bipush C.1 C.2.1 hdg hn (kk H locs ls hP hD hS hl)
theorem V_sipush {n : Int} (C : CX p s m args c D d cc nL own) (hdg : decode cc pc = .ok (.sipush n, 3)) (hn : (Int16.ofInt n).toInt32 = iI n) (kk : V p l e R s m args below meth c A D Q nL cells slots ws lv (pc + 3) (.int (iI n) :: st)) : V p l e R s m args below meth c A D Q nL cells slots ws lv pc st :=
  fun H locs ls hP hD hS hl => lv_sipush C.1 C.2.1 hdg hn (kk H locs ls hP hD hS hl)
theorem V_ldc {n : Int} {index : Nat} {v : Int32} (C : CX p s m args c D d cc nL own) (hdg : decode cc pc = .ok (.ldc index, 2)) (hw : Cond.constant own index v ∈ gtb) (hn : v = iI n) (kk : V p l e R s m args below meth c A D Q nL cells slots ws lv (pc + 2) (.int (iI n) :: st)) : V p l e R s m args below meth c A D Q nL cells slots ws lv pc st := by
  subst hn
  exact fun H locs ls hP hD hS hl => lv_ldc C.1 C.2.1 C.2.2.2.1 (C.2.2.2.2.1 _ hw) hdg (kk H locs ls hP hD hS hl)
theorem V_ldcw {n : Int} {index : Nat} {v : Int32} (C : CX p s m args c D d cc nL own) (hdg : decode cc pc = .ok (.ldc_w index, 3)) (hw : Cond.constant own index v ∈ gtb) (hn : v = iI n) (kk : V p l e R s m args below meth c A D Q nL cells slots ws lv (pc + 3) (.int (iI n) :: st)) : V p l e R s m args below meth c A D Q nL cells slots ws lv pc st := by
  subst hn
  exact fun H locs ls hP hD hS hl => lv_ldcw C.1 C.2.1 C.2.2.2.1 (C.2.2.2.2.1 _ hw) hdg (kk H locs ls hP hD hS hl)
theorem V_ldc2 {n : Int} {index : Nat} {v : Int64} (C : CX p s m args c D d cc nL own) (hdg : decode cc pc = .ok (.ldc2_w index, 3)) (hw : Cond.constantLong own index v ∈ gtb) (hn : v = lI n) (kk : V p l e R s m args below meth c A D Q nL cells slots ws lv (pc + 3) (.long (lI n) :: st)) : V p l e R s m args below meth c A D Q nL cells slots ws lv pc st := by
  subst hn
  exact fun H locs ls hP hD hS hl => lv_ldc2 C.1 C.2.1 C.2.2.2.1 (C.2.2.2.2.1 _ hw) hdg (kk H locs ls hP hD hS hl)
theorem V_lconst {n : Fin 2} {k : Int} (C : CX p s m args c D d cc nL own) (hdg : decode cc pc = .ok (.lconst n, 1)) (hn : Int64.ofNat (n : Nat) = lI k) (kk : V p l e R s m args below meth c A D Q nL cells slots ws lv (pc + 1) (.long (lI k) :: st)) : V p l e R s m args below meth c A D Q nL cells slots ws lv pc st :=
  fun H locs ls hP hD hS hl => lv_lconst C.1 C.2.1 hdg hn (kk H locs ls hP hD hS hl)
theorem V_iload_n {k : Fin 4} {i : Nat} {x : Int32} (C : CX p s m args c D d cc nL own) (hdg : decode cc pc = .ok (.iload_n k, 1)) (hi : (k : Nat) = i) (j : Nat) (hj : lv[j]? = some (i, .int x)) (kk : V p l e R s m args below meth c A D Q nL cells slots ws lv (pc + 1) (.int x :: st)) : V p l e R s m args below meth c A D Q nL cells slots ws lv pc st :=
  fun H locs ls hP hD hS hl => lv_iload_n C.1 C.2.1 hdg hi (lv_at hl j hj) (kk H locs ls hP hD hS hl)
theorem V_iload {i : Nat} {x : Int32} (C : CX p s m args c D d cc nL own) (hdg : decode cc pc = .ok (.iload i, 2)) (j : Nat) (hj : lv[j]? = some (i, .int x)) (kk : V p l e R s m args below meth c A D Q nL cells slots ws lv (pc + 2) (.int x :: st)) : V p l e R s m args below meth c A D Q nL cells slots ws lv pc st :=
  fun H locs ls hP hD hS hl => lv_iload C.1 C.2.1 hdg (lv_at hl j hj) (kk H locs ls hP hD hS hl)
theorem V_lload_n {k : Fin 4} {i : Nat} {x : Int64} (C : CX p s m args c D d cc nL own) (hdg : decode cc pc = .ok (.lload_n k, 1)) (hi : (k : Nat) = i) (j : Nat) (hj : lv[j]? = some (i, .long x)) (kk : V p l e R s m args below meth c A D Q nL cells slots ws lv (pc + 1) (.long x :: st)) : V p l e R s m args below meth c A D Q nL cells slots ws lv pc st :=
  fun H locs ls hP hD hS hl => lv_lload_n C.1 C.2.1 hdg hi (lv_at hl j hj) (kk H locs ls hP hD hS hl)
theorem V_lload {i : Nat} {x : Int64} (C : CX p s m args c D d cc nL own) (hdg : decode cc pc = .ok (.lload i, 2)) (j : Nat) (hj : lv[j]? = some (i, .long x)) (kk : V p l e R s m args below meth c A D Q nL cells slots ws lv (pc + 2) (.long x :: st)) : V p l e R s m args below meth c A D Q nL cells slots ws lv pc st :=
  fun H locs ls hP hD hS hl => lv_lload C.1 C.2.1 hdg (lv_at hl j hj) (kk H locs ls hP hD hS hl)
theorem V_aload_n {k : Fin 4} {i : Nat} {x : Nat} (C : CX p s m args c D d cc nL own) (hdg : decode cc pc = .ok (.aload_n k, 1)) (hi : (k : Nat) = i) (j : Nat) (hj : lv[j]? = some (i, .ref x)) (kk : V p l e R s m args below meth c A D Q nL cells slots ws lv (pc + 1) (.ref x :: st)) : V p l e R s m args below meth c A D Q nL cells slots ws lv pc st :=
  fun H locs ls hP hD hS hl => lv_aload_n C.1 C.2.1 hdg hi (lv_at hl j hj) (kk H locs ls hP hD hS hl)
theorem V_aload {i : Nat} {x : Nat} (C : CX p s m args c D d cc nL own) (hdg : decode cc pc = .ok (.aload i, 2)) (j : Nat) (hj : lv[j]? = some (i, .ref x)) (kk : V p l e R s m args below meth c A D Q nL cells slots ws lv (pc + 2) (.ref x :: st)) : V p l e R s m args below meth c A D Q nL cells slots ws lv pc st :=
  fun H locs ls hP hD hS hl => lv_aload C.1 C.2.1 hdg (lv_at hl j hj) (kk H locs ls hP hD hS hl)
theorem V_istore_n {k : Fin 4} {i : Nat} {x : Int32} {lv' : List (Nat × Value)} (C : CX p s m args c D d cc nL own) (hdg : decode cc pc = .ok (.istore_n k, 1)) (hi : (k : Nat) = i) (hn : i < nL) (hl' : (i, Value.int x) :: lv.filter (fun q => !(q.1 == i) && !(q.1 + 1 == i && q.2.category == 2)) = lv') (kk : V p l e R s m args below meth c A D Q nL cells slots ws lv' (pc + 1) st) : V p l e R s m args below meth c A D Q nL cells slots ws lv pc (.int x :: st) :=
  fun H locs ls hP hD hS hl => lv_istore_n C.1 C.2.1 hdg hi hl hn hl' (fun ls2 hl2 => kk H locs ls2 hP hD hS hl2)
theorem V_istore {i : Nat} {x : Int32} {lv' : List (Nat × Value)} (C : CX p s m args c D d cc nL own) (hdg : decode cc pc = .ok (.istore i, 2)) (hn : i < nL) (hl' : (i, Value.int x) :: lv.filter (fun q => !(q.1 == i) && !(q.1 + 1 == i && q.2.category == 2)) = lv') (kk : V p l e R s m args below meth c A D Q nL cells slots ws lv' (pc + 2) st) : V p l e R s m args below meth c A D Q nL cells slots ws lv pc (.int x :: st) :=
  fun H locs ls hP hD hS hl => lv_istore C.1 C.2.1 hdg hl hn hl' (fun ls2 hl2 => kk H locs ls2 hP hD hS hl2)
theorem V_lstore_n {k : Fin 4} {i : Nat} {x : Int64} {lv' : List (Nat × Value)} (C : CX p s m args c D d cc nL own) (hdg : decode cc pc = .ok (.lstore_n k, 1)) (hi : (k : Nat) = i) (hn : i + 1 < nL) (hl' : (i, Value.long x) :: lv.filter (fun q => !(q.1 == i) && (!(q.1 == i + 1) && !(q.1 + 1 == i && q.2.category == 2))) = lv') (kk : V p l e R s m args below meth c A D Q nL cells slots ws lv' (pc + 1) st) : V p l e R s m args below meth c A D Q nL cells slots ws lv pc (.long x :: st) :=
  fun H locs ls hP hD hS hl => lv_lstore_n C.1 C.2.1 hdg hi hl hn hl' (fun ls2 hl2 => kk H locs ls2 hP hD hS hl2)
theorem V_lstore {i : Nat} {x : Int64} {lv' : List (Nat × Value)} (C : CX p s m args c D d cc nL own) (hdg : decode cc pc = .ok (.lstore i, 2)) (hn : i + 1 < nL) (hl' : (i, Value.long x) :: lv.filter (fun q => !(q.1 == i) && (!(q.1 == i + 1) && !(q.1 + 1 == i && q.2.category == 2))) = lv') (kk : V p l e R s m args below meth c A D Q nL cells slots ws lv' (pc + 2) st) : V p l e R s m args below meth c A D Q nL cells slots ws lv pc (.long x :: st) :=
  fun H locs ls hP hD hS hl => lv_lstore C.1 C.2.1 hdg hl hn hl' (fun ls2 hl2 => kk H locs ls2 hP hD hS hl2)
theorem V_astore_n {k : Fin 4} {i : Nat} {x : Nat} {lv' : List (Nat × Value)} (C : CX p s m args c D d cc nL own) (hdg : decode cc pc = .ok (.astore_n k, 1)) (hi : (k : Nat) = i) (hn : i < nL) (hl' : (i, Value.ref x) :: lv.filter (fun q => !(q.1 == i) && !(q.1 + 1 == i && q.2.category == 2)) = lv') (kk : V p l e R s m args below meth c A D Q nL cells slots ws lv' (pc + 1) st) : V p l e R s m args below meth c A D Q nL cells slots ws lv pc (.ref x :: st) :=
  fun H locs ls hP hD hS hl => lv_astore_n C.1 C.2.1 hdg hi hl hn hl' (fun ls2 hl2 => kk H locs ls2 hP hD hS hl2)
theorem V_astore {i : Nat} {x : Nat} {lv' : List (Nat × Value)} (C : CX p s m args c D d cc nL own) (hdg : decode cc pc = .ok (.astore i, 2)) (hn : i < nL) (hl' : (i, Value.ref x) :: lv.filter (fun q => !(q.1 == i) && !(q.1 + 1 == i && q.2.category == 2)) = lv') (kk : V p l e R s m args below meth c A D Q nL cells slots ws lv' (pc + 2) st) : V p l e R s m args below meth c A D Q nL cells slots ws lv pc (.ref x :: st) :=
  fun H locs ls hP hD hS hl => lv_astore C.1 C.2.1 hdg hl hn hl' (fun ls2 hl2 => kk H locs ls2 hP hD hS hl2)
theorem V_iinc {i : Nat} {n x : Int} {lv' : List (Nat × Value)} (C : CX p s m args c D d cc nL own) (hdg : decode cc pc = .ok (.iinc i n, 3)) (j : Nat) (hj : lv[j]? = some (i, .int (iI x))) (hn : i < nL) (hl' : (i, Value.int (iI (x + n))) :: lv.filter (fun q => !(q.1 == i) && !(q.1 + 1 == i && q.2.category == 2)) = lv') (kk : V p l e R s m args below meth c A D Q nL cells slots ws lv' (pc + 3) st) : V p l e R s m args below meth c A D Q nL cells slots ws lv pc st :=
  fun H locs ls hP hD hS hl => lv_iinc C.1 C.2.1 hdg hl hj (iI_add x n) hn hl' (fun ls2 hl2 => kk H locs ls2 hP hD hS hl2)
theorem V_iadd {x y : Int} (C : CX p s m args c D d cc nL own) (hdg : decode cc pc = .ok (.iadd, 1)) (kk : V p l e R s m args below meth c A D Q nL cells slots ws lv (pc + 1) (.int (iI (x + y)) :: st)) : V p l e R s m args below meth c A D Q nL cells slots ws lv pc (.int (iI y) :: .int (iI x) :: st) :=
  fun H locs ls hP hD hS hl => lv_iadd C.1 C.2.1 hdg (by rw [iI_add]; exact kk H locs ls hP hD hS hl)
theorem V_isub {x y : Int} (C : CX p s m args c D d cc nL own) (hdg : decode cc pc = .ok (.isub, 1)) (kk : V p l e R s m args below meth c A D Q nL cells slots ws lv (pc + 1) (.int (iI (x - y)) :: st)) : V p l e R s m args below meth c A D Q nL cells slots ws lv pc (.int (iI y) :: .int (iI x) :: st) :=
  fun H locs ls hP hD hS hl => lv_isub C.1 C.2.1 hdg (by rw [iI_sub]; exact kk H locs ls hP hD hS hl)
theorem V_imul {x y : Int} (C : CX p s m args c D d cc nL own) (hdg : decode cc pc = .ok (.imul, 1)) (kk : V p l e R s m args below meth c A D Q nL cells slots ws lv (pc + 1) (.int (iI (x * y)) :: st)) : V p l e R s m args below meth c A D Q nL cells slots ws lv pc (.int (iI y) :: .int (iI x) :: st) :=
  fun H locs ls hP hD hS hl => lv_imul C.1 C.2.1 hdg (by rw [iI_mul]; exact kk H locs ls hP hD hS hl)
theorem V_lmul {x y : Int} (C : CX p s m args c D d cc nL own) (hdg : decode cc pc = .ok (.lmul, 1)) (kk : V p l e R s m args below meth c A D Q nL cells slots ws lv (pc + 1) (.long (lI (x * y)) :: st)) : V p l e R s m args below meth c A D Q nL cells slots ws lv pc (.long (lI y) :: .long (lI x) :: st) :=
  fun H locs ls hP hD hS hl => lv_lmul C.1 C.2.1 hdg (by rw [lI_mul]; exact kk H locs ls hP hD hS hl)
theorem V_ineg {x : Int} (C : CX p s m args c D d cc nL own) (hdg : decode cc pc = .ok (.ineg, 1)) (kk : V p l e R s m args below meth c A D Q nL cells slots ws lv (pc + 1) (.int (iI (-x)) :: st)) : V p l e R s m args below meth c A D Q nL cells slots ws lv pc (.int (iI x) :: st) :=
  fun H locs ls hP hD hS hl => lv_ineg C.1 C.2.1 hdg (by rw [iI_neg]; exact kk H locs ls hP hD hS hl)
theorem V_idiv {x y : Int} (C : CX p s m args c D d cc nL own) (hdg : decode cc pc = .ok (.idiv, 1)) (h : (0 ≤ x ∧ x ≤ 2147483647) ∧ 0 < y ∧ y ≤ 2147483647) (kk : V p l e R s m args below meth c A D Q nL cells slots ws lv (pc + 1) (.int (iI (x / y)) :: st)) : V p l e R s m args below meth c A D Q nL cells slots ws lv pc (.int (iI y) :: .int (iI x) :: st) :=
  fun H locs ls hP hD hS hl => lv_idiv C.1 C.2.1 hdg (fun z => by have := (iI_eq (b := 0) ⟨by omega, by omega⟩ sm0).mp z; omega) (by rw [iI_div h.1.1 h.1.2 h.2.1 h.2.2]; exact kk H locs ls hP hD hS hl)
theorem V_irem {x y : Int} (C : CX p s m args c D d cc nL own) (hdg : decode cc pc = .ok (.irem, 1)) (h : (0 ≤ x ∧ x ≤ 2147483647) ∧ 0 < y ∧ y ≤ 2147483647) (kk : V p l e R s m args below meth c A D Q nL cells slots ws lv (pc + 1) (.int (iI (x % y)) :: st)) : V p l e R s m args below meth c A D Q nL cells slots ws lv pc (.int (iI y) :: .int (iI x) :: st) :=
  fun H locs ls hP hD hS hl => lv_irem C.1 C.2.1 hdg (fun z => by have := (iI_eq (b := 0) ⟨by omega, by omega⟩ sm0).mp z; omega) (by rw [iI_rem h.1.1 h.1.2 h.2.1 h.2.2]; exact kk H locs ls hP hD hS hl)
theorem V_ldiv {x y : Int} (C : CX p s m args c D d cc nL own) (hdg : decode cc pc = .ok (.ldiv, 1)) (h : (0 ≤ x ∧ x ≤ 9223372036854775807) ∧ 0 < y ∧ y ≤ 9223372036854775807) (kk : V p l e R s m args below meth c A D Q nL cells slots ws lv (pc + 1) (.long (lI (x / y)) :: st)) : V p l e R s m args below meth c A D Q nL cells slots ws lv pc (.long (lI y) :: .long (lI x) :: st) :=
  fun H locs ls hP hD hS hl => lv_ldiv C.1 C.2.1 hdg (fun z => by have := (lI_eq (b := 0) ⟨by omega, by omega⟩ ⟨by omega, by omega⟩).mp z; omega) (by rw [lI_div h.1.1 h.1.2 h.2.1 h.2.2]; exact kk H locs ls hP hD hS hl)
theorem V_lrem {x y : Int} (C : CX p s m args c D d cc nL own) (hdg : decode cc pc = .ok (.lrem, 1)) (h : (0 ≤ x ∧ x ≤ 9223372036854775807) ∧ 0 < y ∧ y ≤ 9223372036854775807) (kk : V p l e R s m args below meth c A D Q nL cells slots ws lv (pc + 1) (.long (lI (x % y)) :: st)) : V p l e R s m args below meth c A D Q nL cells slots ws lv pc (.long (lI y) :: .long (lI x) :: st) :=
  fun H locs ls hP hD hS hl => lv_lrem C.1 C.2.1 hdg (fun z => by have := (lI_eq (b := 0) ⟨by omega, by omega⟩ ⟨by omega, by omega⟩).mp z; omega) (by rw [lI_rem h.1.1 h.1.2 h.2.1 h.2.2]; exact kk H locs ls hP hD hS hl)
theorem V_iand {x y z : Int} (C : CX p s m args c D d cc nL own) (hdg : decode cc pc = .ok (.iand, 1)) (h : iI x &&& iI y = iI z) (kk : V p l e R s m args below meth c A D Q nL cells slots ws lv (pc + 1) (.int (iI z) :: st)) : V p l e R s m args below meth c A D Q nL cells slots ws lv pc (.int (iI y) :: .int (iI x) :: st) :=
  fun H locs ls hP hD hS hl => lv_iand C.1 C.2.1 hdg (by rw [h]; exact kk H locs ls hP hD hS hl)
theorem V_ior {x y z : Int} (C : CX p s m args c D d cc nL own) (hdg : decode cc pc = .ok (.ior, 1)) (h : iI x ||| iI y = iI z) (kk : V p l e R s m args below meth c A D Q nL cells slots ws lv (pc + 1) (.int (iI z) :: st)) : V p l e R s m args below meth c A D Q nL cells slots ws lv pc (.int (iI y) :: .int (iI x) :: st) :=
  fun H locs ls hP hD hS hl => lv_ior C.1 C.2.1 hdg (by rw [h]; exact kk H locs ls hP hD hS hl)
theorem V_ixor {x y z : Int} (C : CX p s m args c D d cc nL own) (hdg : decode cc pc = .ok (.ixor, 1)) (h : iI x ^^^ iI y = iI z) (kk : V p l e R s m args below meth c A D Q nL cells slots ws lv (pc + 1) (.int (iI z) :: st)) : V p l e R s m args below meth c A D Q nL cells slots ws lv pc (.int (iI y) :: .int (iI x) :: st) :=
  fun H locs ls hP hD hS hl => lv_ixor C.1 C.2.1 hdg (by rw [h]; exact kk H locs ls hP hD hS hl)
theorem V_ishl {x y z : Int} (C : CX p s m args c D d cc nL own) (hdg : decode cc pc = .ok (.ishl, 1)) (h : iI x <<< (iI y &&& 31) = iI z) (kk : V p l e R s m args below meth c A D Q nL cells slots ws lv (pc + 1) (.int (iI z) :: st)) : V p l e R s m args below meth c A D Q nL cells slots ws lv pc (.int (iI y) :: .int (iI x) :: st) :=
  fun H locs ls hP hD hS hl => lv_ishl C.1 C.2.1 hdg (by rw [h]; exact kk H locs ls hP hD hS hl)
theorem V_ishr {x y z : Int} (C : CX p s m args c D d cc nL own) (hdg : decode cc pc = .ok (.ishr, 1)) (h : iI x >>> (iI y &&& 31) = iI z) (kk : V p l e R s m args below meth c A D Q nL cells slots ws lv (pc + 1) (.int (iI z) :: st)) : V p l e R s m args below meth c A D Q nL cells slots ws lv pc (.int (iI y) :: .int (iI x) :: st) :=
  fun H locs ls hP hD hS hl => lv_ishr C.1 C.2.1 hdg (by rw [h]; exact kk H locs ls hP hD hS hl)
theorem V_iushr {x y z : Int} (C : CX p s m args c D d cc nL own) (hdg : decode cc pc = .ok (.iushr, 1)) (h : ((iI x).toUInt32 >>> ((iI y).toUInt32 &&& Int32.toUInt32 31)).toInt32 = iI z) (kk : V p l e R s m args below meth c A D Q nL cells slots ws lv (pc + 1) (.int (iI z) :: st)) : V p l e R s m args below meth c A D Q nL cells slots ws lv pc (.int (iI y) :: .int (iI x) :: st) :=
  fun H locs ls hP hD hS hl => lv_iushr C.1 C.2.1 hdg h (kk H locs ls hP hD hS hl)
theorem V_lushr {x y z : Int} (C : CX p s m args c D d cc nL own) (hdg : decode cc pc = .ok (.lushr, 1)) (h : ((lI x).toUInt64 >>> ((iI y).toInt64.toUInt64 &&& Int64.toUInt64 63)).toInt64 = lI z) (kk : V p l e R s m args below meth c A D Q nL cells slots ws lv (pc + 1) (.long (lI z) :: st)) : V p l e R s m args below meth c A D Q nL cells slots ws lv pc (.int (iI y) :: .long (lI x) :: st) :=
  fun H locs ls hP hD hS hl => lv_lushr C.1 C.2.1 hdg h (kk H locs ls hP hD hS hl)
theorem V_lshr {x y z : Int} (C : CX p s m args c D d cc nL own) (hdg : decode cc pc = .ok (.lshr, 1)) (h : lI x >>> ((iI y).toInt64 &&& 63) = lI z) (kk : V p l e R s m args below meth c A D Q nL cells slots ws lv (pc + 1) (.long (lI z) :: st)) : V p l e R s m args below meth c A D Q nL cells slots ws lv pc (.int (iI y) :: .long (lI x) :: st) :=
  fun H locs ls hP hD hS hl => lv_lshr C.1 C.2.1 hdg h (kk H locs ls hP hD hS hl)
theorem V_lshl {x y : Int} {z : Int64} (C : CX p s m args c D d cc nL own) (hdg : decode cc pc = .ok (.lshl, 1)) (h : lI x <<< ((iI y).toInt64 &&& 63) = z) (kk : V p l e R s m args below meth c A D Q nL cells slots ws lv (pc + 1) (.long z :: st)) : V p l e R s m args below meth c A D Q nL cells slots ws lv pc (.int (iI y) :: .long (lI x) :: st) :=
  fun H locs ls hP hD hS hl => lv_lshl C.1 C.2.1 hdg h (kk H locs ls hP hD hS hl)
theorem V_land {x y : Int64} (C : CX p s m args c D d cc nL own) (hdg : decode cc pc = .ok (.land, 1)) (kk : V p l e R s m args below meth c A D Q nL cells slots ws lv (pc + 1) (.long (x &&& y) :: st)) : V p l e R s m args below meth c A D Q nL cells slots ws lv pc (.long y :: .long x :: st) :=
  fun H locs ls hP hD hS hl => lv_land C.1 C.2.1 hdg (kk H locs ls hP hD hS hl)
theorem V_lor {x y : Int64} {z : Int} (C : CX p s m args c D d cc nL own) (hdg : decode cc pc = .ok (.lor, 1)) (h : x ||| y = lI z) (kk : V p l e R s m args below meth c A D Q nL cells slots ws lv (pc + 1) (.long (lI z) :: st)) : V p l e R s m args below meth c A D Q nL cells slots ws lv pc (.long y :: .long x :: st) :=
  fun H locs ls hP hD hS hl => lv_lor C.1 C.2.1 hdg (by rw [h]; exact kk H locs ls hP hD hS hl)
theorem V_i2l {x : Int} (C : CX p s m args c D d cc nL own) (hdg : decode cc pc = .ok (.i2l, 1)) (h : sm x) (kk : V p l e R s m args below meth c A D Q nL cells slots ws lv (pc + 1) (.long (lI x) :: st)) : V p l e R s m args below meth c A D Q nL cells slots ws lv pc (.int (iI x) :: st) :=
  fun H locs ls hP hD hS hl => lv_i2l C.1 C.2.1 hdg (iI_l h) (kk H locs ls hP hD hS hl)
theorem V_l2i {x : Int} (C : CX p s m args c D d cc nL own) (hdg : decode cc pc = .ok (.l2i, 1)) (kk : V p l e R s m args below meth c A D Q nL cells slots ws lv (pc + 1) (.int (iI x) :: st)) : V p l e R s m args below meth c A D Q nL cells slots ws lv pc (.long (lI x) :: st) :=
  fun H locs ls hP hD hS hl => lv_l2i C.1 C.2.1 hdg (lI_i x) (kk H locs ls hP hD hS hl)
theorem V_lcmp {x y : Int} (C : CX p s m args c D d cc nL own) (hdg : decode cc pc = .ok (.lcmp, 1)) (hx : sL x) (hy : sL y) (kk : V p l e R s m args below meth c A D Q nL cells slots ws lv (pc + 1) (.int (iI (cmpI x y)) :: st)) : V p l e R s m args below meth c A D Q nL cells slots ws lv pc (.long (lI y) :: .long (lI x) :: st) :=
  fun H locs ls hP hD hS hl => W.lcmp C.1 C.2.1 hdg (by rw [lI_cmp hx hy]; exact kk H locs ls hP hD hS hl)
theorem V_dup {v : Value} (C : CX p s m args c D d cc nL own) (hdg : decode cc pc = .ok (.dup, 1)) (hv : v.category = 1) (kk : V p l e R s m args below meth c A D Q nL cells slots ws lv (pc + 1) (v :: v :: st)) : V p l e R s m args below meth c A D Q nL cells slots ws lv pc (v :: st) :=
  fun H locs ls hP hD hS hl => lv_dup C.1 C.2.1 hdg hv (kk H locs ls hP hD hS hl)
theorem V_dup2 {v w : Value} (C : CX p s m args c D d cc nL own) (hdg : decode cc pc = .ok (.dup2, 1)) (hv : v.category = 1) (hw : w.category = 1) (kk : V p l e R s m args below meth c A D Q nL cells slots ws lv (pc + 1) (v :: w :: v :: w :: st)) : V p l e R s m args below meth c A D Q nL cells slots ws lv pc (v :: w :: st) :=
  fun H locs ls hP hD hS hl => lv_dup2_11 C.1 C.2.1 hdg hv hw (kk H locs ls hP hD hS hl)
theorem V_goto {off : Int} (tgt : Nat) (C : CX p s m args c D d cc nL own) (hdg : decode cc pc = .ok (.goto off, 3)) (ht : (pc : Int) + off = (tgt : Int)) (kk : V p l e R s m args below meth c A D Q nL cells slots ws lv tgt st) : V p l e R s m args below meth c A D Q nL cells slots ws lv pc st :=
  fun H locs ls hP hD hS hl => lv_goto C.1 C.2.1 hdg ht (kk H locs ls hP hD hS hl)
theorem V_if_eq {x : Int} {off : Int} (tgt : Nat) (C : CX p s m args c D d cc nL own) (hdg : decode cc pc = .ok (.ifCond .eq off, 3)) (ht : (pc : Int) + off = (tgt : Int)) (hx : sm x) (kt : x = 0 → V p l e R s m args below meth c A D Q nL cells slots ws lv tgt st) (kf : ¬ x = 0 → V p l e R s m args below meth c A D Q nL cells slots ws lv (pc + 3) st) : V p l e R s m args below meth c A D Q nL cells slots ws lv pc (.int (iI x) :: st) :=
  fun H locs ls hP hD hS hl => lv_if_eq C.1 C.2.1 hdg ht (fun z => (fun z => kt ((iI_eq hx sm0).mp z)) z H locs ls hP hD hS hl) (fun z => (fun z => kf (fun w => z ((iI_eq hx sm0).mpr w))) z H locs ls hP hD hS hl)
theorem V_ifb_eq {P : Prop} [Decidable P] {off : Int} (tgt : Nat) (C : CX p s m args c D d cc nL own) (hdg : decode cc pc = .ok (.ifCond .eq off, 3)) (ht : (pc : Int) + off = (tgt : Int)) (kt : ¬ P → V p l e R s m args below meth c A D Q nL cells slots ws lv tgt st) (kf : P → V p l e R s m args below meth c A D Q nL cells slots ws lv (pc + 3) st) : V p l e R s m args below meth c A D Q nL cells slots ws lv pc (.int (iI (bI P)) :: st) :=
  V_if_eq tgt C hdg ht ⟨by have := (bI_01 (P := P)).1; omega, by have := (bI_01 (P := P)).2; omega⟩ (fun z => kt (bI_0.mp z)) (fun z => kf (Classical.not_not.mp (fun w => z (bI_0.mpr w))))
theorem V_ifc_eq {x y : Int} {off : Int} (tgt : Nat) (C : CX p s m args c D d cc nL own) (hdg : decode cc pc = .ok (.ifCond .eq off, 3)) (ht : (pc : Int) + off = (tgt : Int)) (kt : x = y → V p l e R s m args below meth c A D Q nL cells slots ws lv tgt st) (kf : ¬ x = y → V p l e R s m args below meth c A D Q nL cells slots ws lv (pc + 3) st) : V p l e R s m args below meth c A D Q nL cells slots ws lv pc (.int (iI (cmpI x y)) :: st) :=
  V_if_eq tgt C hdg ht (cmpI_sm x y) (fun z => kt ((cmpI_eq x y).mp z)) (fun z => kf (fun w => z ((cmpI_eq x y).mpr w)))
theorem V_icmp_eq {x y : Int} {off : Int} (tgt : Nat) (C : CX p s m args c D d cc nL own) (hdg : decode cc pc = .ok (.if_icmp .eq off, 3)) (ht : (pc : Int) + off = (tgt : Int)) (hx : sm x) (hy : sm y) (kt : x = y → V p l e R s m args below meth c A D Q nL cells slots ws lv tgt st) (kf : ¬ x = y → V p l e R s m args below meth c A D Q nL cells slots ws lv (pc + 3) st) : V p l e R s m args below meth c A D Q nL cells slots ws lv pc (.int (iI y) :: .int (iI x) :: st) :=
  fun H locs ls hP hD hS hl => lv_icmp_eq C.1 C.2.1 hdg ht (fun z => (fun z => kt ((iI_eq hx hy).mp z)) z H locs ls hP hD hS hl) (fun z => (fun z => kf (fun w => z ((iI_eq hx hy).mpr w))) z H locs ls hP hD hS hl)
theorem V_if_ne {x : Int} {off : Int} (tgt : Nat) (C : CX p s m args c D d cc nL own) (hdg : decode cc pc = .ok (.ifCond .ne off, 3)) (ht : (pc : Int) + off = (tgt : Int)) (hx : sm x) (kt : ¬ x = 0 → V p l e R s m args below meth c A D Q nL cells slots ws lv tgt st) (kf : x = 0 → V p l e R s m args below meth c A D Q nL cells slots ws lv (pc + 3) st) : V p l e R s m args below meth c A D Q nL cells slots ws lv pc (.int (iI x) :: st) :=
  fun H locs ls hP hD hS hl => lv_if_ne C.1 C.2.1 hdg ht (fun z => (fun z => kt (fun w => z ((iI_eq hx sm0).mpr w))) z H locs ls hP hD hS hl) (fun z => (fun z => kf ((iI_eq hx sm0).mp z)) z H locs ls hP hD hS hl)
theorem V_ifb_ne {P : Prop} [Decidable P] {off : Int} (tgt : Nat) (C : CX p s m args c D d cc nL own) (hdg : decode cc pc = .ok (.ifCond .ne off, 3)) (ht : (pc : Int) + off = (tgt : Int)) (kt : P → V p l e R s m args below meth c A D Q nL cells slots ws lv tgt st) (kf : ¬ P → V p l e R s m args below meth c A D Q nL cells slots ws lv (pc + 3) st) : V p l e R s m args below meth c A D Q nL cells slots ws lv pc (.int (iI (bI P)) :: st) :=
  V_if_ne tgt C hdg ht ⟨by have := (bI_01 (P := P)).1; omega, by have := (bI_01 (P := P)).2; omega⟩ (fun z => kt (Classical.not_not.mp (fun w => z (bI_0.mpr w)))) (fun z => kf (bI_0.mp z))
theorem V_ifc_ne {x y : Int} {off : Int} (tgt : Nat) (C : CX p s m args c D d cc nL own) (hdg : decode cc pc = .ok (.ifCond .ne off, 3)) (ht : (pc : Int) + off = (tgt : Int)) (kt : ¬ x = y → V p l e R s m args below meth c A D Q nL cells slots ws lv tgt st) (kf : x = y → V p l e R s m args below meth c A D Q nL cells slots ws lv (pc + 3) st) : V p l e R s m args below meth c A D Q nL cells slots ws lv pc (.int (iI (cmpI x y)) :: st) :=
  V_if_ne tgt C hdg ht (cmpI_sm x y) (fun z => kt (fun w => z ((cmpI_eq x y).mpr w))) (fun z => kf ((cmpI_eq x y).mp z))
theorem V_icmp_ne {x y : Int} {off : Int} (tgt : Nat) (C : CX p s m args c D d cc nL own) (hdg : decode cc pc = .ok (.if_icmp .ne off, 3)) (ht : (pc : Int) + off = (tgt : Int)) (hx : sm x) (hy : sm y) (kt : ¬ x = y → V p l e R s m args below meth c A D Q nL cells slots ws lv tgt st) (kf : x = y → V p l e R s m args below meth c A D Q nL cells slots ws lv (pc + 3) st) : V p l e R s m args below meth c A D Q nL cells slots ws lv pc (.int (iI y) :: .int (iI x) :: st) :=
  fun H locs ls hP hD hS hl => lv_icmp_ne C.1 C.2.1 hdg ht (fun z => (fun z => kt (fun w => z ((iI_eq hx hy).mpr w))) z H locs ls hP hD hS hl) (fun z => (fun z => kf ((iI_eq hx hy).mp z)) z H locs ls hP hD hS hl)
theorem V_if_lt {x : Int} {off : Int} (tgt : Nat) (C : CX p s m args c D d cc nL own) (hdg : decode cc pc = .ok (.ifCond .lt off, 3)) (ht : (pc : Int) + off = (tgt : Int)) (hx : sm x) (kt : x < 0 → V p l e R s m args below meth c A D Q nL cells slots ws lv tgt st) (kf : 0 ≤ x → V p l e R s m args below meth c A D Q nL cells slots ws lv (pc + 3) st) : V p l e R s m args below meth c A D Q nL cells slots ws lv pc (.int (iI x) :: st) :=
  fun H locs ls hP hD hS hl => lv_if_lt C.1 C.2.1 hdg ht (fun z => (fun z => kt ((iI_lt hx sm0).mp z)) z H locs ls hP hD hS hl) (fun z => (fun z => kf (by have := mt (iI_lt hx sm0).mpr z; omega)) z H locs ls hP hD hS hl)
theorem V_ifc_lt {x y : Int} {off : Int} (tgt : Nat) (C : CX p s m args c D d cc nL own) (hdg : decode cc pc = .ok (.ifCond .lt off, 3)) (ht : (pc : Int) + off = (tgt : Int)) (kt : x < y → V p l e R s m args below meth c A D Q nL cells slots ws lv tgt st) (kf : y ≤ x → V p l e R s m args below meth c A D Q nL cells slots ws lv (pc + 3) st) : V p l e R s m args below meth c A D Q nL cells slots ws lv pc (.int (iI (cmpI x y)) :: st) :=
  V_if_lt tgt C hdg ht (cmpI_sm x y) (fun z => kt ((cmpI_lt x y).mp z)) (fun z => kf (by have := mt (cmpI_lt x y).mpr (by omega); omega))
theorem V_icmp_lt {x y : Int} {off : Int} (tgt : Nat) (C : CX p s m args c D d cc nL own) (hdg : decode cc pc = .ok (.if_icmp .lt off, 3)) (ht : (pc : Int) + off = (tgt : Int)) (hx : sm x) (hy : sm y) (kt : x < y → V p l e R s m args below meth c A D Q nL cells slots ws lv tgt st) (kf : y ≤ x → V p l e R s m args below meth c A D Q nL cells slots ws lv (pc + 3) st) : V p l e R s m args below meth c A D Q nL cells slots ws lv pc (.int (iI y) :: .int (iI x) :: st) :=
  fun H locs ls hP hD hS hl => lv_icmp_lt C.1 C.2.1 hdg ht (fun z => (fun z => kt ((iI_lt hx hy).mp z)) z H locs ls hP hD hS hl) (fun z => (fun z => kf (by have := mt (iI_lt hx hy).mpr z; omega)) z H locs ls hP hD hS hl)
theorem V_if_ge {x : Int} {off : Int} (tgt : Nat) (C : CX p s m args c D d cc nL own) (hdg : decode cc pc = .ok (.ifCond .ge off, 3)) (ht : (pc : Int) + off = (tgt : Int)) (hx : sm x) (kt : 0 ≤ x → V p l e R s m args below meth c A D Q nL cells slots ws lv tgt st) (kf : x < 0 → V p l e R s m args below meth c A D Q nL cells slots ws lv (pc + 3) st) : V p l e R s m args below meth c A D Q nL cells slots ws lv pc (.int (iI x) :: st) :=
  fun H locs ls hP hD hS hl => lv_if_ge C.1 C.2.1 hdg ht (fun z => (fun z => kt ((iI_le sm0 hx).mp z)) z H locs ls hP hD hS hl) (fun z => (fun z => kf (by have := mt (iI_le sm0 hx).mpr z; omega)) z H locs ls hP hD hS hl)
theorem V_ifc_ge {x y : Int} {off : Int} (tgt : Nat) (C : CX p s m args c D d cc nL own) (hdg : decode cc pc = .ok (.ifCond .ge off, 3)) (ht : (pc : Int) + off = (tgt : Int)) (kt : y ≤ x → V p l e R s m args below meth c A D Q nL cells slots ws lv tgt st) (kf : x < y → V p l e R s m args below meth c A D Q nL cells slots ws lv (pc + 3) st) : V p l e R s m args below meth c A D Q nL cells slots ws lv pc (.int (iI (cmpI x y)) :: st) :=
  V_if_ge tgt C hdg ht (cmpI_sm x y) (fun z => kt (by have := mt (cmpI_lt x y).mpr (by omega); omega)) (fun z => kf ((cmpI_lt x y).mp z))
theorem V_icmp_ge {x y : Int} {off : Int} (tgt : Nat) (C : CX p s m args c D d cc nL own) (hdg : decode cc pc = .ok (.if_icmp .ge off, 3)) (ht : (pc : Int) + off = (tgt : Int)) (hx : sm x) (hy : sm y) (kt : y ≤ x → V p l e R s m args below meth c A D Q nL cells slots ws lv tgt st) (kf : x < y → V p l e R s m args below meth c A D Q nL cells slots ws lv (pc + 3) st) : V p l e R s m args below meth c A D Q nL cells slots ws lv pc (.int (iI y) :: .int (iI x) :: st) :=
  fun H locs ls hP hD hS hl => lv_icmp_ge C.1 C.2.1 hdg ht (fun z => (fun z => kt ((iI_le hy hx).mp z)) z H locs ls hP hD hS hl) (fun z => (fun z => kf (by have := mt (iI_le hy hx).mpr z; omega)) z H locs ls hP hD hS hl)
theorem V_if_gt {x : Int} {off : Int} (tgt : Nat) (C : CX p s m args c D d cc nL own) (hdg : decode cc pc = .ok (.ifCond .gt off, 3)) (ht : (pc : Int) + off = (tgt : Int)) (hx : sm x) (kt : 0 < x → V p l e R s m args below meth c A D Q nL cells slots ws lv tgt st) (kf : x ≤ 0 → V p l e R s m args below meth c A D Q nL cells slots ws lv (pc + 3) st) : V p l e R s m args below meth c A D Q nL cells slots ws lv pc (.int (iI x) :: st) :=
  fun H locs ls hP hD hS hl => lv_if_gt C.1 C.2.1 hdg ht (fun z => (fun z => kt ((iI_lt sm0 hx).mp z)) z H locs ls hP hD hS hl) (fun z => (fun z => kf (by have := mt (iI_lt sm0 hx).mpr z; omega)) z H locs ls hP hD hS hl)
theorem V_ifc_gt {x y : Int} {off : Int} (tgt : Nat) (C : CX p s m args c D d cc nL own) (hdg : decode cc pc = .ok (.ifCond .gt off, 3)) (ht : (pc : Int) + off = (tgt : Int)) (kt : y < x → V p l e R s m args below meth c A D Q nL cells slots ws lv tgt st) (kf : x ≤ y → V p l e R s m args below meth c A D Q nL cells slots ws lv (pc + 3) st) : V p l e R s m args below meth c A D Q nL cells slots ws lv pc (.int (iI (cmpI x y)) :: st) :=
  V_if_gt tgt C hdg ht (cmpI_sm x y) (fun z => kt (by have := mt (cmpI_le x y).mpr (by omega); omega)) (fun z => kf ((cmpI_le x y).mp z))
theorem V_icmp_gt {x y : Int} {off : Int} (tgt : Nat) (C : CX p s m args c D d cc nL own) (hdg : decode cc pc = .ok (.if_icmp .gt off, 3)) (ht : (pc : Int) + off = (tgt : Int)) (hx : sm x) (hy : sm y) (kt : y < x → V p l e R s m args below meth c A D Q nL cells slots ws lv tgt st) (kf : x ≤ y → V p l e R s m args below meth c A D Q nL cells slots ws lv (pc + 3) st) : V p l e R s m args below meth c A D Q nL cells slots ws lv pc (.int (iI y) :: .int (iI x) :: st) :=
  fun H locs ls hP hD hS hl => lv_icmp_gt C.1 C.2.1 hdg ht (fun z => (fun z => kt ((iI_lt hy hx).mp z)) z H locs ls hP hD hS hl) (fun z => (fun z => kf (by have := mt (iI_lt hy hx).mpr z; omega)) z H locs ls hP hD hS hl)
theorem V_if_le {x : Int} {off : Int} (tgt : Nat) (C : CX p s m args c D d cc nL own) (hdg : decode cc pc = .ok (.ifCond .le off, 3)) (ht : (pc : Int) + off = (tgt : Int)) (hx : sm x) (kt : x ≤ 0 → V p l e R s m args below meth c A D Q nL cells slots ws lv tgt st) (kf : 0 < x → V p l e R s m args below meth c A D Q nL cells slots ws lv (pc + 3) st) : V p l e R s m args below meth c A D Q nL cells slots ws lv pc (.int (iI x) :: st) :=
  fun H locs ls hP hD hS hl => lv_if_le C.1 C.2.1 hdg ht (fun z => (fun z => kt ((iI_le hx sm0).mp z)) z H locs ls hP hD hS hl) (fun z => (fun z => kf (by have := mt (iI_le hx sm0).mpr z; omega)) z H locs ls hP hD hS hl)
theorem V_ifc_le {x y : Int} {off : Int} (tgt : Nat) (C : CX p s m args c D d cc nL own) (hdg : decode cc pc = .ok (.ifCond .le off, 3)) (ht : (pc : Int) + off = (tgt : Int)) (kt : x ≤ y → V p l e R s m args below meth c A D Q nL cells slots ws lv tgt st) (kf : y < x → V p l e R s m args below meth c A D Q nL cells slots ws lv (pc + 3) st) : V p l e R s m args below meth c A D Q nL cells slots ws lv pc (.int (iI (cmpI x y)) :: st) :=
  V_if_le tgt C hdg ht (cmpI_sm x y) (fun z => kt ((cmpI_le x y).mp z)) (fun z => kf (by have := mt (cmpI_le x y).mpr (by omega); omega))
theorem V_icmp_le {x y : Int} {off : Int} (tgt : Nat) (C : CX p s m args c D d cc nL own) (hdg : decode cc pc = .ok (.if_icmp .le off, 3)) (ht : (pc : Int) + off = (tgt : Int)) (hx : sm x) (hy : sm y) (kt : x ≤ y → V p l e R s m args below meth c A D Q nL cells slots ws lv tgt st) (kf : y < x → V p l e R s m args below meth c A D Q nL cells slots ws lv (pc + 3) st) : V p l e R s m args below meth c A D Q nL cells slots ws lv pc (.int (iI y) :: .int (iI x) :: st) :=
  fun H locs ls hP hD hS hl => lv_icmp_le C.1 C.2.1 hdg ht (fun z => (fun z => kt ((iI_le hx hy).mp z)) z H locs ls hP hD hS hl) (fun z => (fun z => kf (by have := mt (iI_le hx hy).mpr z; omega)) z H locs ls hP hD hS hl)
theorem V_tswIn {x k : Int} {dflt lo hi : Int} {offs : Array Int} {len : Nat} {off : Int} (tgt : Nat) (C : CX p s m args c D d cc nL own) (hdg : decode cc pc = .ok (.tableswitch dflt lo hi offs, len)) (hx : x = k) (hk : sm k) (h1 : lo ≤ k) (h2 : k ≤ hi) (ho : offs[(k - lo).toNat]? = some off) (ht : (pc : Int) + off = (tgt : Int)) (kk : V p l e R s m args below meth c A D Q nL cells slots ws lv tgt st) : V p l e R s m args below meth c A D Q nL cells slots ws lv pc (.int (iI x) :: st) := by
  subst hx
  have e : (iI x).toInt = x := iI_toInt hk.1 hk.2
  exact fun H locs ls hP hD hS hl => lv_tableIn C.1 C.2.1 hdg (by rw [e]; omega) (by rw [e]; omega) (by rw [e]; exact ho) ht (kk H locs ls hP hD hS hl)
theorem V_tswOut {x : Int} {dflt lo hi : Int} {offs : Array Int} {len : Nat} (tgt : Nat) (C : CX p s m args c D d cc nL own) (hdg : decode cc pc = .ok (.tableswitch dflt lo hi offs, len)) (hk : sm x) (h : x < lo ∨ hi < x) (ht : (pc : Int) + dflt = (tgt : Int)) (kk : V p l e R s m args below meth c A D Q nL cells slots ws lv tgt st) : V p l e R s m args below meth c A D Q nL cells slots ws lv pc (.int (iI x) :: st) := by
  have e : (iI x).toInt = x := iI_toInt hk.1 hk.2
  exact fun H locs ls hP hD hS hl => lv_tableOut C.1 C.2.1 hdg (by rw [e]; exact h) ht (kk H locs ls hP hD hS hl)
theorem aI_at {n : Nat} {f : Int → Int} {i : Int} (h0 : 0 ≤ i) (h1 : i < n) (hn : n < 2147483648) : iI (f ((iI i).toNatClampNeg : Int)) = iI (f i) := by
  rw [iI_nat h0 (by omega), Int.toNat_of_nonneg h0]
theorem aI_up {n : Nat} {f : Int → Int} {i x : Int} (h0 : 0 ≤ i) (h1 : i < n) (hn : n < 2147483648) : upd (fun j : Nat => iI (f (j : Int))) (iI i).toNatClampNeg (iI x) = fun j : Nat => iI (uI f i x (j : Int)) := by
  rw [iI_nat h0 (by omega)]
  funext j
  unfold upd uI
  by_cases h : j = i.toNat
  · rw [if_pos h, if_pos (by omega)]
  · rw [if_neg h, if_neg (by omega)]
theorem V_iald {a n : Nat} {f : Int → Int} {i : Int} (C : CX p s m args c D d cc nL own) (hdg : decode cc pc = .ok (.iaload, 1)) (q0 : Nat) (ha : ws[q0]? = some (a, aI (d 0) n f)) (h0 : 0 ≤ i) (h1 : i < n) (hn : n < 2147483648) (kk : V p l e R s m args below meth c A D Q nL cells slots ws lv (pc + 1) (.int (iI (f i)) :: st)) : V p l e R s m args below meth c A D Q nL cells slots ws lv pc (.int (iI i) :: .ref a :: st) :=
  fun H locs ls hP hD hS hl => va_iald C.1 C.2.1 C.2.2.2.2.2 hP q0 0 ha rfl (iI_in h0 h1 hn) hdg (by rw [aI_at h0 h1 hn]; exact kk H locs ls hP hD hS hl)
theorem V_zald {a n : Nat} {f : Int → Int} {i : Int} (C : CX p s m args c D d cc nL own) (hdg : decode cc pc = .ok (.baload, 1)) (q0 : Nat) (ha : ws[q0]? = some (a, aI (d 1) n f)) (h0 : 0 ≤ i) (h1 : i < n) (hn : n < 2147483648) (kk : V p l e R s m args below meth c A D Q nL cells slots ws lv (pc + 1) (.int (iI (f i)) :: st)) : V p l e R s m args below meth c A D Q nL cells slots ws lv pc (.int (iI i) :: .ref a :: st) :=
  fun H locs ls hP hD hS hl => va_zald C.1 C.2.1 C.2.2.2.2.2 hP q0 1 ha rfl (iI_in h0 h1 hn) hdg (by rw [aI_at h0 h1 hn]; exact kk H locs ls hP hD hS hl)
theorem V_iast {a n : Nat} {f : Int → Int} {i x : Int} {ws' : va_W} (C : CX p s m args c D d cc nL own) (hdg : decode cc pc = .ok (.iastore, 1)) (q0 : Nat) (ha : ws[q0]? = some (a, aI (d 0) n f)) (h0 : 0 ≤ i) (h1 : i < n) (hn : n < 2147483648) (hw : ws.set q0 (a, aI (d 0) n (uI f i x)) = ws') (kk : V p l e R s m args below meth c A D Q nL cells slots ws' lv (pc + 1) st) : V p l e R s m args below meth c A D Q nL cells slots ws lv pc (.int (iI x) :: .int (iI i) :: .ref a :: st) := by
  subst hw
  refine fun H locs ls hP hD hS hl => va_iast C.1 C.2.1 C.2.2.2.2.2 hP hD hS q0 0 ha rfl (iI_in h0 h1 hn) hdg (fun H1 locs1 hP1 hD1 hS1 => ?_)
  rw [aI_up h0 h1 hn] at hP1 hD1
  exact kk H1 locs1 ls hP1 hD1 hS1 hl
theorem nar_b {x : Int} (h : x = 0 ∨ x = 1) : vp_nar .boolean (iI x) = iI x := by
  rcases h with rfl | rfl <;> decide
theorem V_zast {a n : Nat} {f : Int → Int} {i x : Int} {ws' : va_W} (C : CX p s m args c D d cc nL own) (hdg : decode cc pc = .ok (.bastore, 1)) (q0 : Nat) (ha : ws[q0]? = some (a, aI (d 1) n f)) (h0 : 0 ≤ i) (h1 : i < n) (hn : n < 2147483648) (hx : x = 0 ∨ x = 1) (hw : ws.set q0 (a, aI (d 1) n (uI f i x)) = ws') (kk : V p l e R s m args below meth c A D Q nL cells slots ws' lv (pc + 1) st) : V p l e R s m args below meth c A D Q nL cells slots ws lv pc (.int (iI x) :: .int (iI i) :: .ref a :: st) := by
  subst hw
  refine fun H locs ls hP hD hS hl => va_zast C.1 C.2.1 C.2.2.2.2.2 hP hD hS q0 1 ha rfl (iI_in h0 h1 hn) hdg (fun H1 locs1 hP1 hD1 hS1 => ?_)
  rw [nar_b hx, aI_up h0 h1 hn] at hP1 hD1
  exact kk H1 locs1 ls hP1 hD1 hS1 hl
theorem V_alen {a n : Nat} {f : Int → Int} (C : CX p s m args c D d cc nL own) (hdg : decode cc pc = .ok (.arraylength, 1)) (q0 : Nat) (ha : ws[q0]? = some (a, aI (d 0) n f)) (kk : V p l e R s m args below meth c A D Q nL cells slots ws lv (pc + 1) (.int (iI n) :: st)) : V p l e R s m args below meth c A D Q nL cells slots ws lv pc (.ref a :: st) :=
  fun H locs ls hP hD hS hl => va_alen C.1 C.2.1 C.2.2.2.2.2 hP q0 0 ha rfl (v := iI n) (Int32.ofInt_eq_ofNat.symm) hdg (kk H locs ls hP hD hS hl)
theorem V_get {C0 : String} {T : u_T} {N ci index a : Nat} (hin : ∀ w ∈ u_ws C0 T N, w ∈ gtb) (hc : vwCl[ci]? = some (C0, T, N)) (k : Nat) (hk : k < N) (hw : Cond.fieldLink own index (T k).1 (T k).2.1 (T k).2.2.1 ∈ gtb) (C : CX p s m args c D d cc nL own) (hdg : decode cc pc = .ok (.getfield index, 3)) (q0 : Nat) {fs : List Value} (he : ws[q0]? = some (a, .inr (ci, fs))) {v : Value} (hv : fs[k]? = some v) (kk : V p l e R s m args below meth c A D Q nL cells slots ws lv (pc + 3) (v :: st)) : V p l e R s m args below meth c A D Q nL cells slots ws lv pc (.ref a :: st) :=
  fun H locs ls hP hD hS hl => va_get C.1 C.2.1 C.2.2.2.2.1 hin C.2.2.2.1 C.2.2.2.2.2 hP q0 he hc k hk (C.2.2.2.2.1 _ hw) (fun _ h9 => h9) hv hdg (kk H locs ls hP hD hS hl)
theorem V_put {C0 : String} {T : u_T} {N ci index a : Nat} (hin : ∀ w ∈ u_ws C0 T N, w ∈ gtb) (ty0 : Nat → FieldType) (hty : ∀ k, k < N → parseFieldDescriptor (T k).2.2.1 = some (ty0 k)) (hnm : ∀ a, a < N → ∀ b, b < N → a ≠ b → (T a).2.1 ≠ (T b).2.1) (hc : vwCl[ci]? = some (C0, T, N)) (k : Nat) (hk : k < N) (hw : Cond.fieldLink own index (T k).1 (T k).2.1 (T k).2.2.1 ∈ gtb) (hfin : (T k).2.2.2 = false) {ty : FieldType} (hd : parseFieldDescriptor (T k).2.2.1 = some ty) (C : CX p s m args c D d cc nL own) (hdg : decode cc pc = .ok (.putfield index, 3)) (q0 : Nat) {fs fs' : List Value} (he : ws[q0]? = some (a, .inr (ci, fs))) {v : Value} (hn : narrow ty v = v) (hfit : fits ty v = true) (hlen : k < fs.length) (hset : fs.set k v = fs') {ws' : va_W} (hws : ws.set q0 (a, .inr (ci, fs')) = ws') (kk : V p l e R s m args below meth c A D Q nL cells slots ws' lv (pc + 3) st) : V p l e R s m args below meth c A D Q nL cells slots ws lv pc (v :: .ref a :: st) := by
  subst hset
  subst hws
  exact fun H locs ls hP hD hS hl => va_put C.1 C.2.1 C.2.2.2.2.1 hin ty0 hty hnm C.2.2.2.1 C.2.2.2.2.2 hP hD hS q0 he hc k hk (C.2.2.2.2.1 _ hw) (fun _ h9 => h9) hfin hd hn hfit hlen hdg (fun H1 locs1 hP1 hD1 hS1 => kk H1 locs1 ls hP1 hD1 hS1 hl)
theorem V_mmin {index : Nat} {x y : Int} (C : CX p s m args c D d cc nL own) (hlink : Cond.methodLink own index Lib.Math.min.name ∈ gtb) (hstat : Cond.static Lib.Math.min.name ∈ gtb) (hini : Cond.initialized "java/lang/Math" ∈ gtb) (hcode : Cond.code Lib.Math.min.name Lib.Math.min.code 2 (some .int) ∈ gtb) (hdg : decode cc pc = .ok (.invokestatic index, 3)) (hx : sm x) (hy : sm y) (hframes : 1 ≤ R.frames) (hlocals : (st.map fun v => v.category).sum + 13 ≤ R.locals) (hcs : cells ≤ R.cells) (hss : slots ≤ R.slots) (kk : V p l e R s m args below meth c A D Q nL cells slots ws lv (pc + 3) (.int (iI (min x y)) :: st)) : V p l e R s m args below meth c A D Q nL cells slots ws lv pc (.int (iI y) :: .int (iI x) :: st) :=
  fun H locs ls hP hD hS hl => va_mmin C.1 C.2.1 (C.2.2.1.trans hl.1.symm) C.2.2.2.1 (C.2.2.2.2.1 _ hlink) (C.2.2.2.2.1 _ hstat) (C.2.2.2.2.1 _ hini) (C.2.2.2.2.1 _ hcode) hframes hlocals hcs hss hdg (by
    have hh : (if iI y < iI x then iI y else iI x) = iI (min x y) := by
      by_cases h : y < x
      · rw [if_pos ((iI_lt hy hx).mpr h), Int.min_eq_right (by omega)]
      · rw [if_neg (fun z => h ((iI_lt hy hx).mp z)), Int.min_eq_left (by omega)]
    rw [hh]; exact kk H locs ls hP hD hS hl)
theorem V_mmax {index : Nat} {x y : Int} (C : CX p s m args c D d cc nL own) (hlink : Cond.methodLink own index Lib.Math.max.name ∈ gtb) (hstat : Cond.static Lib.Math.max.name ∈ gtb) (hini : Cond.initialized "java/lang/Math" ∈ gtb) (hcode : Cond.code Lib.Math.max.name Lib.Math.max.code 2 (some .int) ∈ gtb) (hdg : decode cc pc = .ok (.invokestatic index, 3)) (hx : sm x) (hy : sm y) (hframes : 1 ≤ R.frames) (hlocals : (st.map fun v => v.category).sum + 13 ≤ R.locals) (hcs : cells ≤ R.cells) (hss : slots ≤ R.slots) (kk : V p l e R s m args below meth c A D Q nL cells slots ws lv (pc + 3) (.int (iI (max x y)) :: st)) : V p l e R s m args below meth c A D Q nL cells slots ws lv pc (.int (iI y) :: .int (iI x) :: st) :=
  fun H locs ls hP hD hS hl => va_mmax C.1 C.2.1 (C.2.2.1.trans hl.1.symm) C.2.2.2.1 (C.2.2.2.2.1 _ hlink) (C.2.2.2.2.1 _ hstat) (C.2.2.2.2.1 _ hini) (C.2.2.2.2.1 _ hcode) hframes hlocals hcs hss hdg (by
    have hh : (if iI x < iI y then iI y else iI x) = iI (max x y) := by
      by_cases h : x < y
      · rw [if_pos ((iI_lt hx hy).mpr h), Int.max_eq_right (by omega)]
      · rw [if_neg (fun z => h ((iI_lt hx hy).mp z)), Int.max_eq_left (by omega)]
    rw [hh]; exact kk H locs ls hP hD hS hl)
end VV
/-- ws, with the cells of w1 at the places is -/
def wput (ws : va_W) (is : List Nat) (w1 : va_W) : va_W := (is.zip w1).foldl (fun w q => w.set q.1 q.2) ws
theorem wput_spec : ∀ (is : List Nat) (w0 w1 ws : va_W), is.map (fun i => ws[i]?) = w0.map some → va_nd is = true → w1.map Prod.fst = w0.map Prod.fst →
    ∀ (k : Nat) (q : Nat × va_E), (wput ws is w1)[k]? = some q → (∃ (j : Nat) (q0 : Nat × va_E), is[j]? = some k ∧ w1[j]? = some q ∧ ws[k]? = some q0 ∧ q0.1 = q.1) ∨ (k ∉ is ∧ ws[k]? = some q)
  | [], w0, w1, ws, h0, _, _, k, q, h => by
    exact Or.inr ⟨List.not_mem_nil, h⟩
  | i :: is, w0, w1, ws, h0, hn, h1, k, q, h => by
    cases w0 with
    | nil => simp at h0
    | cons a w0 =>
      cases w1 with
      | nil => simp at h1
      | cons b w1 =>
        simp only [List.map_cons, List.cons.injEq] at h0 h1
        simp only [va_nd, Bool.and_eq_true, decide_eq_true_eq] at hn
        have h : (wput (ws.set i b) is w1)[k]? = some q := h
        have hs : is.map (fun j => (ws.set i b)[j]?) = w0.map some := by
          rw [← h0.2]
          apply List.map_congr_left
          intro j hj
          rw [List.getElem?_set_ne (show i ≠ j from fun e => hn.1 (by rw [e]; exact hj))]
        have hil : i < ws.length := (List.getElem?_eq_some_iff.mp h0.1).1
        rcases wput_spec is w0 w1 (ws.set i b) hs hn.2 h1.2 k q h with ⟨j, q0, g1, g2, g3, g4⟩ | ⟨g1, g2⟩
        · refine Or.inl ⟨j + 1, q0, g1, g2, ?_, g4⟩
          rw [List.getElem?_set_ne (show i ≠ k from fun e => hn.1 (by rw [e]; exact List.mem_of_getElem? g1))] at g3
          exact g3
        · by_cases hki : k = i
          · subst hki
            rw [List.getElem?_set_self hil] at g2
            cases g2
            exact Or.inl ⟨0, a, rfl, rfl, h0.1, h1.1.symm⟩
          · rw [List.getElem?_set_ne (Ne.symm hki)] at g2
            exact Or.inr ⟨fun e => (List.mem_cons.mp e).elim hki g1, g2⟩
theorem wput_ok {A : Nat → Prop} {D : va_G} {cl : List vw_C} {ws w0 w1 : va_W} {is : List Nat} {H H1 : Heap} (hP : va_P D cl ws H) (hD : va_D A ws) (hsub : is.map (fun i => ws[i]?) = w0.map some) (hn : va_nd is = true) (hadr : w1.map Prod.fst = w0.map Prod.fst) (hP1 : va_P D cl w1 H1) (hk : ∀ q : Nat, q < H.size → ¬ inW w0 q → H1[q]? = H[q]?) : va_P D cl (wput ws is w1) H1 ∧ va_D A (wput ws is w1) := by
  have at0 : ∀ (k2 : Nat) (q : Nat × va_E), w0[k2]? = some q → ∃ i, is[k2]? = some i ∧ ws[i]? = some q := by
    intro k2 q hq
    have h1 : (is.map (fun i => ws[i]?))[k2]? = some (some q) := by rw [hsub, List.getElem?_map, hq]; rfl
    rw [List.getElem?_map] at h1
    cases hi : is[k2]? with
    | none => rw [hi] at h1; cases h1
    | some i => rw [hi] at h1; exact ⟨i, rfl, Option.some.inj h1⟩
  have key : ∀ (k : Nat) (q : Nat × va_E), (wput ws is w1)[k]? = some q → ∃ q0, ws[k]? = some q0 ∧ q0.1 = q.1 := by
    intro k q hq
    rcases wput_spec is w0 w1 ws hsub hn hadr k q hq with ⟨j, q0, -, -, g3, g4⟩ | ⟨-, g2⟩
    · exact ⟨q0, g3, g4⟩
    · exact ⟨q, g2, rfl⟩
  refine ⟨fun k q hq => ?_, fun i j x y hi hj hxy => ?_, fun k q hq => ?_⟩
  · rcases wput_spec is w0 w1 ws hsub hn hadr k q hq with ⟨j, q0, g1, g2, -, -⟩ | ⟨g1, g2⟩
    · exact hP1 j q g2
    · refine (hP k q g2).kept (hk q.1 (hP k q g2).lt ?_)
      rintro ⟨k2, e, h⟩
      obtain ⟨i, h3, h4⟩ := at0 k2 (q.1, e) h
      have := hD.1 k i q (q.1, e) g2 h4 rfl
      subst this
      exact g1 (List.mem_of_getElem? h3)
  · obtain ⟨x0, h1, h2⟩ := key i x hi
    obtain ⟨y0, h3, h4⟩ := key j y hj
    exact hD.1 i j x0 y0 h1 h3 (h2.trans (hxy.trans h4.symm))
  · obtain ⟨q0, h1, h2⟩ := key k q hq
    rw [← h2]
    exact hD.2 k q0 h1
def PU (D : va_G) (d : Nat → ClassId) (av : List Value) (ws : va_W) : Array Value → State → Prop := va_Pc av (fun U => va_P D vwCl ws U.heap ∧ va_K D vwCl (TYs d) U ∧ va_D (fun _ => True) ws)
def QU (D : va_G) {S : Type} (post : S → Prop) (res : S → Option Value) (ws' : S → va_W) (ws : va_W) : Array Value → State → Outcome → State → Prop := fun _ st o t => (∃ u : S, post u ∧ o = .returned (res u) ∧ va_P D vwCl (ws' u) t.heap) ∧ va_F (inW ws) st t
/-- THE CONTRACT of a method that makes nothing: out of the world ws it answers res and leaves ws', for some u of post -/
def CU {S : Type} (l : Launch) (y : MethodName) (cc : ByteArray) (nL : Nat) (ret : Option FieldType) (rf rl : Nat) (D : va_G) (d : Nat → ClassId) (av : List Value) (ws : va_W) (post : S → Prop) (res : S → Option Value) (ws' : S → va_W) : Prop :=
  Met l y (.code y cc nL ret :: gtb) { frames := rf, cells := 0, slots := 0, locals := rl } (PU D d av ws) (QU D post res ws' ws) 0 0 (inW ws)
theorem CU.mk {S : Type} {l : Launch} {y : MethodName} {cc : ByteArray} {nL : Nat} {ret : Option FieldType} {rf rl : Nat} {D : va_G} {d : Nat → ClassId} {av : List Value} {ws : va_W} {post : S → Prop} {res : S → Option Value} {ws' : S → va_W} {lv : List (Nat × Value)} (hy : plainName y.cls = true) (hlen : (lg_sl av).length ≤ nL) (hlv : lv_args 0 av = lv)
    (body : ∀ (p : Program) (e : Env) (s : State) (m : MethodId) (below : List Frame) (meth : Method) (c : Code), CX p s m av.toArray c D d cc nL y.cls → meth.sig.returnType = ret → meth.locks = false → V p l e { frames := rf, cells := 0, slots := 0, locals := rl } s m av.toArray below meth c (inW ws) D (MQ below (QU D post res ws' ws) av.toArray s 0 0 (inW ws)) nL 0 0 ws lv 0 []) : CU l y cc nL ret rf rl D d av ws post res ws' := by
  refine Met.ofW (cc := cc) (maxL := nL) (ret := ret) hy rfl ?_
  intro p e s m args below meth c s₁ B hml hv
  obtain ⟨rfl, hP, hK, hD⟩ := hv
  have hts := atoms_spec (ws := .code y cc nL ret :: gtb) B.pre
  have hl := lv_entry av (n := nL) hlen
  rw [lg_entry_eq]
  rw [hlv] at hl
  exact body p e s m below meth c ⟨B.exec, B.bytes, hml, findClass_of_methodNamed B.named, fun w h => hts w (List.mem_cons_of_mem _ h), hK⟩ B.returns B.notSynchronized s.heap [] _ hP ⟨hD.1, fun k q hk => ⟨k, q.2, hk⟩⟩ va_S.rf hl
section VC
variable {p : Program} {l : Launch} {e : Env} {R : Room} {s : State} {m : MethodId} {args : Array Value} {below : List Frame} {meth : Method} {c : Code} {A : Nat → Prop} {D : va_G} {d : Nat → ClassId} {Q : State → Prop} {cc : ByteArray} {nL : Nat} {own : String} {cells slots : Nat} {ws : va_W} {lv : List (Nat × Value)} {pc : Nat} {st : List Value}
theorem V_iret {S : Type} {post : S → Prop} {res : S → Option Value} {ws' : S → va_W} {ws0 : va_W} {x : Int32} (C : CX p s m args c D d cc nL own) (hr : meth.sig.returnType = some .int) (hk : meth.locks = false) (hdg : decode cc pc = .ok (.ireturn, 1)) (u : S) (hp : post u) (hres : res u = some (.int x)) (hw : ws' u = ws) : V p l e R s m args below meth c (inW ws0) D (MQ below (QU D post res ws' ws0) args s 0 0 (inW ws0)) nL 0 0 ws lv pc [.int x] :=
  fun H locs ls hP hD hS hl => W.iret C.1 C.2.1 hr (fun t ht hW => ⟨⟨u, hp, by rw [hres], by rw [hw, ht]; exact hP⟩, hS.F ht⟩) hS.2.2 hdg hk
theorem nar_z {x : Int} (h : x = 0 ∨ x = 1) : narrow .boolean (.int (iI x)) = .int (iI x) := by
  rcases h with rfl | rfl <;> rfl
theorem V_zret {S : Type} {post : S → Prop} {res : S → Option Value} {ws' : S → va_W} {ws0 : va_W} {x : Int} (C : CX p s m args c D d cc nL own) (hr : meth.sig.returnType = some .boolean) (hk : meth.locks = false) (hdg : decode cc pc = .ok (.ireturn, 1)) (hx : x = 0 ∨ x = 1) (u : S) (hp : post u) (hres : res u = some (.int (iI x))) (hw : ws' u = ws) : V p l e R s m args below meth c (inW ws0) D (MQ below (QU D post res ws' ws0) args s 0 0 (inW ws0)) nL 0 0 ws lv pc [.int (iI x)] :=
  fun H locs ls hP hD hS hl => W.zret C.1 C.2.1 hr (nar_z hx) (fun t ht hW => ⟨⟨u, hp, by rw [hres], by rw [hw, ht]; exact hP⟩, hS.F ht⟩) hS.2.2 hdg hk
theorem V_lret {S : Type} {post : S → Prop} {res : S → Option Value} {ws' : S → va_W} {ws0 : va_W} {x : Int64} (C : CX p s m args c D d cc nL own) (hr : meth.sig.returnType = some .long) (hk : meth.locks = false) (hdg : decode cc pc = .ok (.lreturn, 1)) (u : S) (hp : post u) (hres : res u = some (.long x)) (hw : ws' u = ws) : V p l e R s m args below meth c (inW ws0) D (MQ below (QU D post res ws' ws0) args s 0 0 (inW ws0)) nL 0 0 ws lv pc [.long x] :=
  fun H locs ls hP hD hS hl => W.lret C.1 C.2.1 hr (fun t ht hW => ⟨⟨u, hp, by rw [hres], by rw [hw, ht]; exact hP⟩, hS.F ht⟩) hS.2.2 hdg hk
theorem V_vret {S : Type} {post : S → Prop} {res : S → Option Value} {ws' : S → va_W} {ws0 : va_W} (C : CX p s m args c D d cc nL own) (hr : meth.sig.returnType = none) (hk : meth.locks = false) (hdg : decode cc pc = .ok (.return_, 1)) (u : S) (hp : post u) (hres : res u = none) (hw : ws' u = ws) : V p l e R s m args below meth c (inW ws0) D (MQ below (QU D post res ws' ws0) args s 0 0 (inW ws0)) nL 0 0 ws lv pc [] :=
  fun H locs ls hP hD hS hl => W.vret C.1 C.2.1 hr (fun t ht hW => ⟨⟨u, hp, by rw [hres], by rw [hw, ht]; exact hP⟩, hS.F ht⟩) hS.2.2 hdg hk
theorem gtb_code {y : MethodName} {bytes : ByteArray} {maxL : Nat} {ret : Option FieldType} (h : Cond.code y bytes maxL ret ∈ gtb) : GoodIn gtb (.code y bytes maxL ret :: gtb) := fun w hw => (List.mem_cons.mp hw).elim (fun e => by rw [e]; exact gtb_good _ h) (fun h2 => gtb_good w h2)
theorem run_done {S : Type} {post : S → Prop} {res : S → Option Value} {ws' wn : S → va_W} {w1 : va_W} {rest : List Value} {a : Array Value} {is : List Nat} {sn : S → List Value} {H : Heap} {locs : List Loc} {ls : Array Slot} {st0 : List Value}
    (hr : va_Run p l e R s m args below meth c H locs cells slots 0 0 (F0 m pc ls st0) rest (QU D post res ws' w1 a) (inW w1)) (hP : va_P D vwCl ws H) (hD : va_D A ws) (hS : va_S A s.heap H locs) (hl : lv_has ls nL lv) (hsub : is.map (fun i => ws[i]?) = w1.map some) (hnd : va_nd is = true) (hadr : ∀ u, (ws' u).map Prod.fst = w1.map Prod.fst) (hwn : ∀ u, wput ws is (ws' u) = wn u) (hsn : ∀ u, (res u).toList ++ rest = sn u)
    (kk : ∀ u, post u → V p l e R s m args below meth c A D Q nL cells slots (wn u) lv (pc + 3) (sn u)) : W p l e R s m args below meth c H locs cells slots Q (F0 m pc ls st0) := by
  intro T hT X
  obtain ⟨v, st₀, t, T', L, h0, X', hL, e1, e2, ⟨⟨u, hpu, hv, hPu⟩, hz, hk⟩, hgo⟩ := hr T hT X
  cases hv
  rw [h0] at hz hk
  rw [← e1] at hPu hz hk
  have hin : ∀ q, inW w1 q → A q := by
    rintro q ⟨k, e, h⟩
    have h1 : (is.map (fun i => ws[i]?))[k]? = some (some (q, e)) := by rw [hsub, List.getElem?_map, h]; rfl
    rw [List.getElem?_map] at h1
    cases hi : is[k]? with
    | none => rw [hi] at h1; cases h1
    | some i => rw [hi] at h1; exact hD.2 i (q, e) (Option.some.inj h1)
  obtain ⟨hP', hD'⟩ := wput_ok hP hD hsub hnd (hadr u) hPu hk
  rw [hwn u] at hP' hD'
  have h9 := kk u hpu T'.heap (locs ++ L) ls hP' hD' ⟨Nat.le_trans hS.1 hz, fun q h1 h2 => (hk q (Nat.lt_of_lt_of_le h1 hS.1) (fun z => h2 (hin q z))).trans (hS.2.1 q h1 h2), fun x hx => (List.mem_append.mp hx).elim (hS.2.2 x) (fun h => hin _ (hL x h))⟩ hl T' rfl X'
  rw [← hsn u] at h9
  obtain ⟨t2, a1, b1⟩ := h9
  exact ⟨t2, hgo t2 a1, b1⟩
theorem V_callV {S : Type} {post : S → Prop} {res : S → Option Value} {ws' wn : S → va_W} {w1 : va_W} {y : MethodName} {cc' : ByteArray} {nL' n index rf rl ci b : Nat} {ret' : Option FieldType} {As rest : List Value} {sn : S → List Value} {T0 : u_T} {N0 : Nat} {fs : List Value}
    (hcode : Cond.code y cc' nL' ret' ∈ gtb) (hlink : Cond.methodLink own index y ∈ gtb) (hinst : Cond.instanceMethod y ∈ gtb) (hsel : Cond.selects y.cls y y ∈ gtb) (hini : Cond.initialized y.cls ∈ gtb) (hd : y.cls ≠ "java/lang/invoke/MethodHandle" ∧ y.cls ≠ "java/lang/invoke/VarHandle" ∧ (parseMethodDescriptor y.desc).map (fun d => d.parameters.length) = some n) (hci : vwCl[ci]? = some (y.cls, T0, N0))
    (C : CX p s m args c D d cc nL own) (hdg : decode cc pc = .ok (.invokevirtual index, 3)) (hM : CU l y cc' nL' ret' rf rl D d (.ref b :: As) w1 post res ws') (is : List Nat) (hsub : is.map (fun i => ws[i]?) = w1.map some) (hnd : va_nd is = true) (r0 : Nat) (hrc : ws[r0]? = some (b, .inr (ci, fs))) (hst : st = As.reverse ++ .ref b :: rest) (hn : As.length = n) (hrest : (rest.map fun v => v.category).sum ≤ 8) (hroom : rf + 1 ≤ R.frames ∧ 8 + (nL' + 11) + rl ≤ R.locals) (hcl : cells ≤ R.cells ∧ slots ≤ R.slots) (hadr : ∀ u, (ws' u).map Prod.fst = w1.map Prod.fst) (hwn : ∀ u, wput ws is (ws' u) = wn u) (hsn : ∀ u, (res u).toList ++ rest = sn u)
    (kk : ∀ u, post u → V p l e R s m args below meth c A D Q nL cells slots (wn u) lv (pc + 3) (sn u)) : V p l e R s m args below meth c A D Q nL cells slots ws lv pc st := by
  intro H locs ls hP hD hS hl
  subst hst
  have hPc : va_P D vwCl w1 H := hP.sub is (by
    have h := congrArg (List.filterMap id) hsub
    simpa [List.filterMap_map, Function.comp_def] using h)
  have hDc : va_D A w1 := hD.sub is hnd hsub
  refine run_done (va_runV (As := As) (rest := rest) (b := b) (C := y.cls) (g := F0 m pc ls (As.reverse ++ .ref b :: rest)) ⟨C.1, C.2.1, C.2.2.1, C.2.2.2.1, C.2.2.2.2.1⟩ hM ⟨callB_of n C.2.2.2.2.1 (gtb_code hcode) rfl rfl rfl (C.2.2.2.2.1 _ hini) (C.2.2.2.2.1 _ hlink) hd hroom, C.2.2.2.2.1 _ hinst, C.2.2.2.2.1 _ hsel⟩
    ⟨fun a U g mk q => by obtain ⟨q0, qP, qK, qD⟩ := q; exact ⟨q0, qP, va_K.moved (u := U) (U := U.calling g mk a) (Vm.Alike.refl U.vm) qK, qD⟩, va_recv C.2.2.2.2.2 hP hci hrc, fun U hU hW => ⟨rfl, by rw [hU]; exact hPc, va_K.moved hW.alike C.2.2.2.2.2, hDc.weaken (fun _ _ _ _ => trivial)⟩⟩ rfl hn hl.1 rfl (lv_room hrest) hdg hcl) hP hD hS hl hsub hnd hadr hwn hsn kk
theorem V_callS {S : Type} {post : S → Prop} {res : S → Option Value} {ws' wn : S → va_W} {w1 : va_W} {y : MethodName} {cc' : ByteArray} {nL' n index rf rl : Nat} {ret' : Option FieldType} {As rest : List Value} {sn : S → List Value}
    (hcode : Cond.code y cc' nL' ret' ∈ gtb) (hlink : Cond.methodLink own index y ∈ gtb) (hstat : Cond.static y ∈ gtb) (hini : Cond.initialized y.cls ∈ gtb) (hd : y.cls ≠ "java/lang/invoke/MethodHandle" ∧ y.cls ≠ "java/lang/invoke/VarHandle" ∧ (parseMethodDescriptor y.desc).map (fun d => d.parameters.length) = some n)
    (C : CX p s m args c D d cc nL own) (hdg : decode cc pc = .ok (.invokestatic index, 3)) (hM : CU l y cc' nL' ret' rf rl D d As w1 post res ws') (is : List Nat) (hsub : is.map (fun i => ws[i]?) = w1.map some) (hnd : va_nd is = true) (hst : st = As.reverse ++ rest) (hn : As.length = n) (hrest : (rest.map fun v => v.category).sum ≤ 8) (hroom : rf + 1 ≤ R.frames ∧ 8 + (nL' + 11) + rl ≤ R.locals) (hcl : cells ≤ R.cells ∧ slots ≤ R.slots) (hadr : ∀ u, (ws' u).map Prod.fst = w1.map Prod.fst) (hwn : ∀ u, wput ws is (ws' u) = wn u) (hsn : ∀ u, (res u).toList ++ rest = sn u)
    (kk : ∀ u, post u → V p l e R s m args below meth c A D Q nL cells slots (wn u) lv (pc + 3) (sn u)) : V p l e R s m args below meth c A D Q nL cells slots ws lv pc st := by
  intro H locs ls hP hD hS hl
  subst hst
  have hPc : va_P D vwCl w1 H := hP.sub is (by
    have h := congrArg (List.filterMap id) hsub
    simpa [List.filterMap_map, Function.comp_def] using h)
  have hDc : va_D A w1 := hD.sub is hnd hsub
  refine run_done (va_runS (As := As) (rest := rest) (g := F0 m pc ls (As.reverse ++ rest)) ⟨C.1, C.2.1, C.2.2.1, C.2.2.2.1, C.2.2.2.2.1⟩ hM ⟨callB_of n C.2.2.2.2.1 (gtb_code hcode) rfl rfl rfl (C.2.2.2.2.1 _ hini) (C.2.2.2.2.1 _ hlink) hd hroom, C.2.2.2.2.1 _ hstat⟩
    ⟨fun a U g mk q => by obtain ⟨q0, qP, qK, qD⟩ := q; exact ⟨q0, qP, va_K.moved (u := U) (U := U.calling g mk a) (Vm.Alike.refl U.vm) qK, qD⟩, fun U hU hW => ⟨rfl, by rw [hU]; exact hPc, va_K.moved hW.alike C.2.2.2.2.2, hDc.weaken (fun _ _ _ _ => trivial)⟩⟩ rfl hn hl.1 rfl (lv_room hrest) hdg hcl) hP hD hS hl hsub hnd hadr hwn hsn kk
end VC
end
