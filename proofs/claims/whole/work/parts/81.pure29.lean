/-! kept and gone on from -/
def mK (k : Int) (M6 M9 M22 M23 M24 M25 M38 : Int → Int) (n cm : Int) : Int → Int := uI (uI (cpO M25 (cpO M24 (cpO (fun j => 10 * M22 j + M23 j) (cpO M9 (cpO M6 M38 (60 * k) 6) (60 * k + 6) 4) (60 * k + 10) 12) (60 * k + 22) 12) (60 * k + 34) 12) (60 * k + 46) n) (60 * k + 47) cm
section KP
variable {k k' n cm : Int} {M6 M9 M22 M23 M24 M25 M38 M39 : Int → Int}
theorem mK_a {j : Int} (hj : 0 ≤ j ∧ j < 6) : mK k M6 M9 M22 M23 M24 M25 M38 n cm (60 * k + j) = M6 j := by
  unfold mK uI cpO
  rw [if_neg (by omega), if_neg (by omega), if_neg (by omega), if_neg (by omega), if_neg (by omega), if_neg (by omega), if_pos (by omega)]
  congr 1
  omega
theorem mK_b {j : Int} (hj : 0 ≤ j ∧ j < 4) : mK k M6 M9 M22 M23 M24 M25 M38 n cm (60 * k + 6 + j) = M9 j := by
  unfold mK uI cpO
  rw [if_neg (by omega), if_neg (by omega), if_neg (by omega), if_neg (by omega), if_neg (by omega), if_pos (by omega)]
  congr 1
  omega
theorem mK_c {j : Int} (hj : 0 ≤ j ∧ j < 12) : mK k M6 M9 M22 M23 M24 M25 M38 n cm (60 * k + 10 + j) = 10 * M22 j + M23 j := by
  unfold mK uI cpO
  rw [if_neg (by omega), if_neg (by omega), if_neg (by omega), if_neg (by omega), if_pos (by omega), show 60 * k + 10 + j - (60 * k + 10) = j by omega]
theorem mK_d {j : Int} (hj : 0 ≤ j ∧ j < 12) : mK k M6 M9 M22 M23 M24 M25 M38 n cm (60 * k + 22 + j) = M24 j := by
  unfold mK uI cpO
  rw [if_neg (by omega), if_neg (by omega), if_neg (by omega), if_pos (by omega), show 60 * k + 22 + j - (60 * k + 22) = j by omega]
theorem mK_e {j : Int} (hj : 0 ≤ j ∧ j < 12) : mK k M6 M9 M22 M23 M24 M25 M38 n cm (60 * k + 34 + j) = M25 j := by
  unfold mK uI cpO
  rw [if_neg (by omega), if_neg (by omega), if_pos (by omega), show 60 * k + 34 + j - (60 * k + 34) = j by omega]
theorem mK_f : mK k M6 M9 M22 M23 M24 M25 M38 n cm (60 * k + 46) = n := by
  unfold mK
  rw [uI_n _ _ (by omega), uI_s]
theorem mK_g : mK k M6 M9 M22 M23 M24 M25 M38 n cm (60 * k + 47) = cm := by
  unfold mK
  rw [uI_s]
theorem mK_o {x : Int} (hx : x < 60 * k ∨ 60 * k + 48 ≤ x) : mK k M6 M9 M22 M23 M24 M25 M38 n cm x = M38 x := by
  unfold mK uI cpO
  rw [if_neg (by omega), if_neg (by omega), if_neg (by omega), if_neg (by omega), if_neg (by omega), if_neg (by omega), if_neg (by omega)]
theorem mK_bd (h6 : bd M6 0 99) (h9 : bd M9 0 9999) (h22 : bd M22 0 5) (h23 : bd M23 0 3) (h24 : bd M24 0 99) (h25 : bd M25 0 9801) (h38 : bd M38 0 9999) (hn : 0 ≤ n ∧ n ≤ 12) (hc : 0 ≤ cm ∧ cm ≤ 99) : bd (mK k M6 M9 M22 M23 M24 M25 M38 n cm) 0 9999 := by
  have cp : ∀ (f g : Int → Int) (a m : Int), bd f 0 9999 → bd g 0 9999 → bd (cpO f g a m) 0 9999 := by
    intro f g a m hf hg j
    unfold cpO
    split
    · exact hf _
    · exact hg _
  refine bd_u (bd_u (cp _ _ _ _ (bd_w h25 (by decide) (by decide)) (cp _ _ _ _ (bd_w h24 (by decide) (by decide)) (cp _ _ _ _ (fun j => ?_) (cp _ _ _ _ h9 (cp _ _ _ _ (bd_w h6 (by decide) (by decide)) h38))))) (by omega)) (by omega)
  have := h22 j
  have := h23 j
  show 0 ≤ 10 * M22 j + M23 j ∧ 10 * M22 j + M23 j ≤ 9999
  omega
theorem stk_c {S S' W W' A A' : Int → Int} {n : Int} (hS : ∀ c : Int, 0 ≤ c ∧ c < 4 → S' c = S c) (hW : ∀ j : Int, 0 ≤ j ∧ j < n → W' j = W j ∧ A' j = A j) (h : stk S W A n) : stk S' W' A' n := by
  intro c hc
  rw [hS c hc, sZ_c (h := fun j => if W j = c then A j else 0) (fun j a b => by rw [(hW j ⟨a, b⟩).1, (hW j ⟨a, b⟩).2])]
  exact h c hc
variable {P K n2 cm2 z6 z7 z8 : Int} {A0 A1 A2 A3 A4 A5 K0 K1 K2 K3 K4 K5 : Int → Int}
theorem keep_me (hP : 0 ≤ P ∧ P ≤ 6) (hK : 0 ≤ K ∧ K ≤ 4) (h4 : J4 P K n n2 cm cm2 A0 M6 A1 M9 A2 M22 A3 M23 A4 M24 A5 M25) (h5 : J5 k P K z6 z7 z8 K0 K1 K2 K3 K4 K5 M38 M39) :
    J5 k P K n cm 1 (cpI A0 K0 6) (cpI A1 K1 4) (cpI A2 K2 12) (cpI A3 K3 12) (cpI A4 K4 12) (cpI A5 K5 12) (mK k M6 M9 M22 M23 M24 M25 M38 n2 cm2) (uI M39 k 1) := by
  obtain ⟨⟨rfl, rfl, hn, hc⟩, ⟨a1, a2, a3⟩, ⟨s1, s2, s3⟩, ⟨rfl, rfl, rfl, rfl⟩, ⟨c2, c3, c4, c5⟩, w1, t1, t2⟩ := h4
  obtain ⟨-, ⟨d0, d1, d2, d3, d4, d5⟩, -⟩ := h5
  refine ⟨⟨(uI_s _ _ _).symm, Or.inr rfl⟩, ⟨bd_c a1 d0, bd_c s1 d1, bd_c c2 d2, bd_c c3 d3, bd_c c4 d4, bd_c c5 d5⟩, fun _ => ⟨⟨hn, hc⟩, fun j hj => ?_, fun j hj => ?_, fun j hj => ?_, fun j hj => ?_, ⟨mK_f, mK_g⟩, fun j hj => ?_, ?_, ?_⟩⟩
  · rw [cpI_in (by omega), mK_a (by omega)]
    exact a3 j hj
  · rw [mK_a hj]
    exact (a2 j).2
  · rw [cpI_in (by omega), mK_b (by omega)]
    exact s3 j hj
  · rw [cpI_in hj, cpI_in hj, cpI_in hj, cpI_in hj, mK_c hj, mK_d hj, mK_e hj]
    exact ⟨rfl, rfl, rfl⟩
  · rw [cpI_in (by omega)]
    exact w1 j hj
  · exact stk_c (fun c hc => cpI_in hc) (fun j hj => ⟨cpI_in (by omega), cpI_in (by omega)⟩) t1
  · exact stk_c (fun c hc => mK_b hc) (fun j hj => ⟨cpI_in (by omega), cpI_in (by omega)⟩) t2
theorem keep_other (hk : (k = 0 ∧ k' = 1) ∨ (k = 1 ∧ k' = 0)) (hP : 0 ≤ P ∧ P ≤ 6) (hK : 0 ≤ K ∧ K ≤ 4) (h5 : J5 k' P K z6 z7 z8 K0 K1 K2 K3 K4 K5 M38 M39) : J5 k' P K z6 z7 z8 K0 K1 K2 K3 K4 K5 (mK k M6 M9 M22 M23 M24 M25 M38 n2 cm2) (uI M39 k 1) := by
  obtain ⟨⟨e1, e2⟩, hb, hi⟩ := h5
  refine ⟨⟨by rw [uI_n _ _ (by omega)]; exact e1, e2⟩, hb, fun hz => ?_⟩
  obtain ⟨h0, h1, h2, h3, h4, ⟨h5, h6⟩, h7, h8, h9⟩ := hi hz
  refine ⟨h0, fun j hj => ?_, fun j hj => ?_, fun j hj => ?_, fun j hj => ?_, ⟨?_, ?_⟩, h7, h8, ?_⟩
  · rw [mK_o (by omega)]
    exact h1 j hj
  · rw [mK_o (by omega)]
    exact h2 j hj
  · rw [mK_o (by omega)]
    exact h3 j hj
  · rw [mK_o (by omega), mK_o (by omega), mK_o (by omega)]
    exact h4 j hj
  · rw [mK_o (by omega)]
    exact h5
  · rw [mK_o (by omega)]
    exact h6
  · exact stk_c (fun c hc => mK_o (by omega)) (fun j hj => ⟨rfl, rfl⟩) h9
theorem s_again (hP : 0 ≤ P ∧ P ≤ 6) (hK : 0 ≤ K ∧ K ≤ 4) (h38 : bd M38 0 9999) (h4 : J4 P K n n2 cm cm2 A0 M6 A1 M9 A2 M22 A3 M23 A4 M24 A5 M25) (h5 : J5 k P K z6 z7 z8 K0 K1 K2 K3 K4 K5 M38 M39) (hz : z8 = 1) :
    z6 = M38 (60 * k + 46) ∧ J4 P K z6 (M38 (60 * k + 46)) z7 (M38 (60 * k + 47)) (cpI K0 A0 6) (cpI (fun j => M38 (60 * k + j)) M6 6) (cpI K1 A1 4) (cpI (fun j => M38 (60 * k + 6 + j)) M9 4) (cpI K2 A2 12) (cpI (fun j => M38 (60 * k + 10 + j) / 10) M22 12) (cpI K3 A3 12) (cpI (fun j => M38 (60 * k + 10 + j) % 10) M23 12) (cpI K4 A4 12) (cpI (fun j => M38 (60 * k + 22 + j)) M24 12) (cpI K5 A5 12) (cpI (fun j => M38 (60 * k + 34 + j)) M25 12) := by
  obtain ⟨⟨rfl, rfl, hn, hc⟩, ⟨a1, a2, a3⟩, ⟨s1, s2, s3⟩, ⟨rfl, rfl, rfl, rfl⟩, ⟨c2, c3, c4, c5⟩, w1, t1, t2⟩ := h4
  obtain ⟨-, ⟨d0, d1, d2, d3, d4, d5⟩, hi⟩ := h5
  obtain ⟨⟨h0, h0'⟩, h1, h2, h3, h4, ⟨h5, h6⟩, h7, h8, h9⟩ := hi hz
  have cong : ∀ (f g h : Int → Int), (∀ j : Int, 0 ≤ j ∧ j < 12 → f j = g j) → cpI f h 12 = cpI g h 12 := by
    intro f g h hh
    funext j
    unfold cpI
    by_cases q : 0 ≤ j ∧ j < 12
    · rw [if_pos q, if_pos q]
      exact hh j q
    · rw [if_neg q, if_neg q]
  refine ⟨h5.symm, ⟨h5.symm, h6.symm, h0, h0'⟩, ⟨bd_c d0 a1, ?_, fun j hj => ?_⟩, ⟨bd_c d1 s1, bd_c (fun j => h38 _) s2, fun j hj => ?_⟩, ⟨cong _ _ _ (fun j hj => ?_), cong _ _ _ (fun j hj => ?_), cong _ _ _ (fun j hj => (h4 j hj).2.1.symm), cong _ _ _ (fun j hj => (h4 j hj).2.2.symm)⟩, ⟨bd_c d2 c2, bd_c d3 c3, bd_c d4 c4, bd_c d5 c5⟩, fun j hj => ?_, ?_, ?_⟩
  · intro j
    unfold cpI
    by_cases q : 0 ≤ j ∧ j < 6
    · rw [if_pos q]
      exact ⟨(h38 _).1, h2 j q⟩
    · rw [if_neg q]
      exact a2 j
  · rw [cpI_in (by omega), cpI_in (by omega)]
    exact h1 j hj
  · rw [cpI_in (by omega), cpI_in (by omega)]
    exact h3 j hj
  · show K2 j = M38 (60 * k + 10 + j) / 10
    rw [(h4 j hj).1]
    have := d3 j
    omega
  · show K3 j = M38 (60 * k + 10 + j) % 10
    rw [(h4 j hj).1]
    have := d3 j
    omega
  · rw [cpI_in (by omega)]
    exact h7 j hj
  · exact stk_c (fun c hc => cpI_in hc) (fun j hj => ⟨cpI_in (by omega), cpI_in (by omega)⟩) h8
  · exact stk_c (fun c hc => cpI_in hc) (fun j hj => ⟨cpI_in (by omega), cpI_in (by omega)⟩) h9
end KP
/-! a market taken -/
theorem rdT_9 {c : Int} {s : ((Nat → Int) × (Nat → Int) × (Int → Int) × (Int → Int) × (Int → Int) × (Int → Int) × (Int → Int))} : (rdTakes c s).2.2.1 9 = s.2.1 9 := by
  obtain ⟨g, h, T0, T1, T3, T4, T5⟩ := s
  rw [rdTakes_m]
  unfold rdOpens rdPerson rdCounter rdBar
  (repeat' split) <;> rfl
theorem rdN_9 {S : Int → Int} {s : ((Nat → Int) × (Nat → Int) × (Int → Int) × (Int → Int) × (Int → Int) × (Int → Int) × (Int → Int))} : ∀ k : Nat, (rdN S s k).2.1 9 = s.2.1 9
  | 0 => rfl
  | k + 1 => by
    show (rdTakes (S k) (rdN S s k)).2.2.1 9 = _
    rw [rdT_9]
    exact rdN_9 k
theorem rdE_yes {n : Int} {S : Int → Int} {s s' : ((Nat → Int) × (Nat → Int) × (Int → Int) × (Int → Int) × (Int → Int) × (Int → Int) × (Int → Int))} (h : rdE n S s (-9) s') : rdK s' ∧ s'.1 0 = 0 ∧ s'.2.1 9 = s.2.1 9 := by
  obtain ⟨-, k, hk, q | ⟨q1, q2, q3, q4⟩⟩ := h
  · omega
  · rcases q4 with q4 | q4
    · refine ⟨q3, q4.1, ?_⟩
      rw [q2]
      exact rdN_9 k
    · omega
theorem rdE_det {n x : Int} {S : Int → Int} {s s' y : ((Nat → Int) × (Nat → Int) × (Int → Int) × (Int → Int) × (Int → Int) × (Int → Int) × (Int → Int))} (h : rdE n S s (-9) s') (h2 : rdE n S s x y) : x = -9 := by
  obtain ⟨-, k, hk, q | ⟨q1, q2, q3, q4⟩⟩ := h
  · omega
  · obtain ⟨-, k2, hk2, t | ⟨t1, t2, t3, t4⟩⟩ := h2
    · have := hk k2 (by omega)
      omega
    · have e : k2 = k := by omega
      rw [e, ← q2] at t2
      rw [t2] at t4
      rcases q4 with q4 | q4
      · rcases t4 with t4 | t4
        · exact t4.2
        · exact absurd q4.1 t4.1
      · omega
theorem mrE_rd {n : Int} {S : Int → Int} {s0 : ((Nat → Int) × (Nat → Int) × (Int → Int) × (Int → Int) × (Int → Int) × (Int → Int) × (Int → Int))} {m : (Int × Int × Int × (Int → Int) × (Int → Int) × (Int → Int) × (Int → Int) × (Int → Int))} (hK : rdK s0) (h : mrE n S s0 (-9) m) : ∃ s', rdE n S s0 (-9) s' := by
  rcases h with ⟨-, s, ⟨h0, hs, ho⟩, hr⟩ | h
  · refine ⟨s, rdE_end ⟨h0, rfl⟩ ho hs ?_ (Or.inl ⟨?_, rfl⟩)⟩
    · rw [hs]
      exact rdN_K hK ho
    · obtain ⟨g, h9, T0, T1, T3, T4, T5⟩ := s
      obtain ⟨p, P, K, A, B, Q, R, G⟩ := m
      exact hr.1.1
  · omega
section MK
variable {n : Int} {S A0 A1 A2 A3 A4 A5 M6 M7 M8 M9 M10 M11 M12 M22 M23 M24 M25 E2 M39 : Int → Int} {P K n1 n2 cm cm2 : Int} {s0 u : ((Nat → Int) × (Nat → Int) × (Int → Int) × (Int → Int) × (Int → Int) × (Int → Int) × (Int → Int))} {u2 : (Int × Int × Int × (Int → Int) × (Int → Int) × (Int → Int) × (Int → Int) × (Int → Int))}
theorem mk_3 (h9 : s0.2.1 9 = 0) (hu : rdE n S s0 (-9) u) (hu2 : mrE n S s0 (-9) u2 ∧ mdKB u2) (b2 : bd E2 0 9) (b7 : bd M7 0 99) (b8 : bd M8 0 99) (b10 : bd M10 0 1) (b11 : bd M11 0 9) (b12 : bd M12 0 1) :
    J3 (u.2.1 6) (u.2.1 7) u2.2.1 u2.2.2.1 u.2.2.2.1 (cpI u2.2.2.2.2.1 M7 6) u.2.2.2.2.2.1 (cpI u2.2.2.2.2.2.1 M8 4) u.2.2.2.2.1 (cpI u2.2.2.2.2.2.2.2 M10 24) (cpI (fun _ => 0) E2 6) (cpI (fun _ => 0) M11 6) (u.2.1 9) (cpI (fun _ => 0) M12 6) := by
  obtain ⟨y1, y2, y3⟩ := rdE_yes hu
  have tie := (mr_tie hu hu2.1).2 rfl
  obtain ⟨g, h, T0, T1, T3, T4, T5⟩ := u
  obtain ⟨p, P', K', A, B, Q, R, G⟩ := u2
  obtain ⟨⟨p6, p7, -⟩, ⟨r0, r1, r3, r4, r5⟩, ⟨o0, o4⟩, -⟩ := y1
  obtain ⟨⟨-, e6, e7⟩, t1, t2, bG, tb, -, -⟩ := tie
  obtain ⟨mA, mB, mQ, mR, mG⟩ := hu2.2
  have z9 : h 9 = 0 := y3.trans h9
  show J3 (h 6) (h 7) P' K' T1 (cpI B M7 6) T4 (cpI Q M8 4) T3 (cpI G M10 24) (cpI (fun _ => 0) E2 6) (cpI (fun _ => 0) M11 6) (h 9) (cpI (fun _ => 0) M12 6)
  refine ⟨⟨e6, e7, p6, p7⟩, ⟨r1, bd_c mB b7, fun j hj => ?_⟩, ⟨r4, bd_c mQ b8, fun j hj => ?_⟩, ⟨r3, bd_c mG b10, fun i c hi hc => ?_⟩, ⟨bd_c (bd_0 (by decide) (by decide)) b2, bd_c (bd_0 (by decide) (by decide)) b11, fun j hj => ?_⟩, ⟨by omega, bd_c (bd_0 (by decide) (by decide)) b12, fun j hj => ?_⟩⟩
  · rw [cpI_in (by omega)]
    exact (t1 j (by omega)).2
  · rw [cpI_in (by omega)]
    exact ⟨(t2 j (by omega)).1, o4 j hj⟩
  · rw [cpI_in (by omega)]
    exact tb i c hi hc
  · rw [cpI_in (by omega), cpI_in (by omega)]
  · rw [cpI_in (by omega), z9, bitI_z]
theorem mk_4 (hu : rdE n S s0 (-9) u) (hu2 : mrE n S s0 (-9) u2 ∧ mdKB u2) (h4 : J4 P K n1 n2 cm cm2 A0 M6 A1 M9 A2 M22 A3 M23 A4 M24 A5 M25) :
    J4 (u.2.1 6) (u.2.1 7) 0 0 cm cm2 (cpI u.2.2.1 A0 6) (cpI u2.2.2.2.1 M6 6) (cpI u.2.2.2.2.2.2 A1 4) (cpI u2.2.2.2.2.2.2.1 M9 4) A2 M22 A3 M23 A4 M24 A5 M25 := by
  obtain ⟨y1, y2, y3⟩ := rdE_yes hu
  have tie := (mr_tie hu hu2.1).2 rfl
  obtain ⟨⟨-, ec, -, hcm⟩, ⟨a1, a2, -⟩, ⟨s1, s2, -⟩, he, hb, -, -, -⟩ := h4
  obtain ⟨g, h, T0, T1, T3, T4, T5⟩ := u
  obtain ⟨p, P', K', A, B, Q, R, G⟩ := u2
  obtain ⟨⟨p6, p7, -⟩, ⟨r0, r1, r3, r4, r5⟩, ⟨o0, o4⟩, -⟩ := y1
  obtain ⟨⟨-, e6, e7⟩, t1, t2, bG, tb, -, -⟩ := tie
  obtain ⟨mA, mB, mQ, mR, mG⟩ := hu2.2
  show J4 (h 6) (h 7) 0 0 cm cm2 (cpI T0 A0 6) (cpI A M6 6) (cpI T5 A1 4) (cpI R M9 4) A2 M22 A3 M23 A4 M24 A5 M25
  refine ⟨⟨rfl, ec, by omega, hcm⟩, ⟨bd_c r0 a1, bd_c mA a2, fun j hj => ?_⟩, ⟨bd_c r5 s1, bd_c mR s2, fun j hj => ?_⟩, he, hb, fun j hj => by omega, stk_0 (bd_c r5 s1), stk_0 (bd_c mR s2)⟩
  · rw [cpI_in (by omega), cpI_in (by omega)]
    exact ⟨(t1 j (by omega)).1, o0 j hj⟩
  · rw [cpI_in (by omega), cpI_in (by omega)]
    exact (t2 j (by omega)).2
theorem mk_5 {k P K P' K' z6 z7 z8 : Int} {K0 K1 K2 K3 K4 K5 M38 M39 M39' : Int → Int} (h : M39' k = 0) (h5 : J5 k P K z6 z7 z8 K0 K1 K2 K3 K4 K5 M38 M39) : J5 k P' K' z6 z7 0 K0 K1 K2 K3 K4 K5 M38 M39' := ⟨⟨h.symm, Or.inl rfl⟩, h5.2.1, fun z => by omega⟩
theorem mk_ans (hu : rdE n S s0 (-9) u) (hu2 : mrE n S s0 (-9) u2 ∧ mdKB u2) : u.2.1 6 = u2.2.1 := by
  have tie := (mr_tie hu hu2.1).2 rfl
  obtain ⟨g, h, T0, T1, T3, T4, T5⟩ := u
  obtain ⟨p, P', K', A, B, Q, R, G⟩ := u2
  exact tie.1.2.1
theorem md_B (h : mdKB u2) : mdKB ((0, 0, 0, u2.2.2.2.1, u2.2.2.2.2.1, u2.2.2.2.2.2.1, u2.2.2.2.2.2.2.1, u2.2.2.2.2.2.2.2) : (Int × Int × Int × (Int → Int) × (Int → Int) × (Int → Int) × (Int → Int) × (Int → Int))) := by
  obtain ⟨p, P', K', A, B, Q, R, G⟩ := u2
  exact h
theorem rd_B (h : rdKB u) : rdB u.2.2.1 u.2.2.2.1 u.2.2.2.2.1 u.2.2.2.2.2.1 u.2.2.2.2.2.2 := by
  obtain ⟨g, h, T0, T1, T3, T4, T5⟩ := u
  exact h
theorem rd0_R2 {g h : Nat → Int} {T0 T1 T3 T4 T5 A B Q R G : Int → Int} (hG : bd G 0 1) : rmR (rd0 g h T0 T1 T3 T4 T5) (0, 0, 0, A, B, Q, R, cpI (fun _ => 0) G 24) := rd0_R (bd_c (bd_0 (by decide) (by decide)) hG) (fun j hj => cpI_in hj)
end MK
