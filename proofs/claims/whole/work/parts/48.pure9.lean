/-! the reference's reader, held against the reader that takes one sign at a time -/
def fgP (n : Int) (S : Int → Int) (p a : Int) : Int × Int := if p = n ∨ ¬ (a ≤ S p - 48 ∧ S p - 48 ≤ 9) then (-9, p) else (S p - 48, p + 1)
def twP (n : Int) (S : Int → Int) (p a : Int) : Int × Int :=
  let x := fgP n S p 0
  let y := if x.1 = -9 then (-9, x.2) else fgP n S x.2 (if x.1 = 0 then a else 0)
  (if y.1 = -9 then -9 else 10 * x.1 + y.1, y.2)
theorem fgP_b {n : Int} {S : Int → Int} {p a : Int} (hp : 0 ≤ p ∧ p ≤ n) (ha : 0 ≤ a) : (0 ≤ (fgP n S p a).2 ∧ (fgP n S p a).2 ≤ n) ∧ ((fgP n S p a).1 = -9 ∨ (0 ≤ (fgP n S p a).1 ∧ (fgP n S p a).1 ≤ 9)) := by
  unfold fgP
  split
  · exact ⟨hp, Or.inl rfl⟩
  · exact ⟨⟨by show 0 ≤ p + 1; omega, by show p + 1 ≤ n; omega⟩, Or.inr ⟨by show 0 ≤ S p - 48; omega, by show S p - 48 ≤ 9; omega⟩⟩
theorem twP_1 {n : Int} {S : Int → Int} {p a q : Int} (h : fgP n S p 0 = (-9, q)) : twP n S p a = (-9, q) := by
  unfold twP
  dsimp only
  rw [h]
  rfl
theorem twP_2 {n : Int} {S : Int → Int} {p a v p1 q : Int} (h : fgP n S p 0 = (v, p1)) (hv : ¬ v = -9) (h2 : fgP n S p1 (if v = 0 then a else 0) = (-9, q)) : twP n S p a = (-9, q) := by
  unfold twP
  dsimp only
  rw [h]
  dsimp only
  rw [if_neg hv, h2]
  rfl
theorem twP_3 {n : Int} {S : Int → Int} {p a v p1 w q : Int} (h : fgP n S p 0 = (v, p1)) (hv : ¬ v = -9) (h2 : fgP n S p1 (if v = 0 then a else 0) = (w, q)) (hw : ¬ w = -9) : twP n S p a = (10 * v + w, q) := by
  unfold twP
  dsimp only
  rw [h]
  dsimp only
  rw [if_neg hv, h2]
  dsimp only
  rw [if_neg hw]
theorem twP_b {n : Int} {S : Int → Int} {p a : Int} (hp : 0 ≤ p ∧ p ≤ n) (ha : 0 ≤ a) : (0 ≤ (twP n S p a).2 ∧ (twP n S p a).2 ≤ n) ∧ ((twP n S p a).1 = -9 ∨ (0 ≤ (twP n S p a).1 ∧ (twP n S p a).1 ≤ 99)) := by
  have h1 := fgP_b (S := S) hp (Int.le_refl 0)
  obtain ⟨v, p1, e⟩ : ∃ v p1, fgP n S p 0 = (v, p1) := ⟨_, _, rfl⟩
  rw [e] at h1
  by_cases hv : v = -9
  · rw [twP_1 (by rw [e, hv])]
    exact ⟨h1.1, Or.inl rfl⟩
  · have h2 := fgP_b (S := S) (a := if v = 0 then a else 0) h1.1 (by split <;> omega)
    obtain ⟨w, q, e2⟩ : ∃ w q, fgP n S p1 (if v = 0 then a else 0) = (w, q) := ⟨_, _, rfl⟩
    have h2 := h2
    rw [show fgP n S (v, p1).2 (if v = 0 then a else 0) = (w, q) from e2] at h2
    by_cases hw : w = -9
    · rw [twP_2 e hv (by rw [e2, hw])]
      exact ⟨h2.1, Or.inl rfl⟩
    · rw [twP_3 e hv e2 hw]
      refine ⟨h2.1, Or.inr ?_⟩
      show 0 ≤ 10 * v + w ∧ 10 * v + w ≤ 99
      have k1 : v = -9 ∨ 0 ≤ v ∧ v ≤ 9 := h1.2
      have k2 : w = -9 ∨ 0 ≤ w ∧ w ≤ 9 := h2.2
      omega
def adv (S : Int → Int) (s0 : ((Nat → Int) × (Nat → Int) × (Int → Int) × (Int → Int) × (Int → Int) × (Int → Int) × (Int → Int))) (p : Int) (s : ((Nat → Int) × (Nat → Int) × (Int → Int) × (Int → Int) × (Int → Int) × (Int → Int) × (Int → Int))) : Prop := 0 ≤ p ∧ s = rdN S s0 p.toNat ∧ rdOkTo S s0 p.toNat
theorem adv_s {S : Int → Int} {s0 s s' : ((Nat → Int) × (Nat → Int) × (Int → Int) × (Int → Int) × (Int → Int) × (Int → Int) × (Int → Int))} {p z : Int} (h : adv S s0 p s) (e : rdTakes (S p) s = (z, s')) (hz : z = 1) : adv S s0 (p + 1) s' := by
  obtain ⟨h0, h1, h2⟩ := h
  refine ⟨by omega, ?_, rdOk_s h0 h2 h1 e.symm (by omega)⟩
  rw [rdN_s h0, ← h1, e]
def stp (S : Int → Int) (s0 : ((Nat → Int) × (Nat → Int) × (Int → Int) × (Int → Int) × (Int → Int) × (Int → Int) × (Int → Int))) (n p : Int) : Prop := (0 ≤ p ∧ rdOkTo S s0 p.toNat) ∧ ((p = n ∧ ¬ (rdN S s0 p.toNat).1 0 = 0) ∨ (p < n ∧ (rdTakes (S p) (rdN S s0 p.toNat)).1 = 0))
theorem stp_n {S : Int → Int} {s0 s : ((Nat → Int) × (Nat → Int) × (Int → Int) × (Int → Int) × (Int → Int) × (Int → Int) × (Int → Int))} {p n : Int} (h : adv S s0 p s) (hp : p = n) (h0 : ¬ s.1 0 = 0) : stp S s0 n p := by
  obtain ⟨a, b, c⟩ := h
  exact ⟨⟨a, c⟩, Or.inl ⟨hp, by rw [← b]; exact h0⟩⟩
theorem stp_f {S : Int → Int} {s0 s : ((Nat → Int) × (Nat → Int) × (Int → Int) × (Int → Int) × (Int → Int) × (Int → Int) × (Int → Int))} {p n : Int} (h : adv S s0 p s) (hp : p < n) (h0 : (rdTakes (S p) s).1 = 0) : stp S s0 n p := by
  obtain ⟨a, b, c⟩ := h
  exact ⟨⟨a, c⟩, Or.inr ⟨hp, by rw [← b]; exact h0⟩⟩
theorem rdT_nd {c : Int} {s : ((Nat → Int) × (Nat → Int) × (Int → Int) × (Int → Int) × (Int → Int) × (Int → Int) × (Int → Int))} (h0 : ¬ s.1 0 = 0) (hc : ¬ (48 ≤ c ∧ c ≤ 57)) : (rdTakes c s).1 = 0 := by
  obtain ⟨g, h, T0, T1, T3, T4, T5⟩ := s
  rw [rdTakes_m, if_neg h0, if_pos hc]
theorem fg_c {S : Int → Int} {s0 s : ((Nat → Int) × (Nat → Int) × (Int → Int) × (Int → Int) × (Int → Int) × (Int → Int) × (Int → Int))} {p n a : Int} (h : adv S s0 p s) (hp : p ≤ n) (h0 : ¬ s.1 0 = 0) (ha : 0 ≤ a) :
    (fgP n S p a = (-9, p) ∧ (stp S s0 n p ∨ (p < n ∧ 0 ≤ S p - 48 ∧ S p - 48 ≤ 9 ∧ S p - 48 < a))) ∨ (fgP n S p a = (S p - 48, p + 1) ∧ p < n ∧ a ≤ S p - 48 ∧ S p - 48 ≤ 9) := by
  unfold fgP
  by_cases e : p = n
  · rw [if_pos (Or.inl e)]
    exact Or.inl ⟨rfl, Or.inl (stp_n h e h0)⟩
  · by_cases f : a ≤ S p - 48 ∧ S p - 48 ≤ 9
    · rw [if_neg (by omega)]
      exact Or.inr ⟨rfl, by omega, f.1, f.2⟩
    · rw [if_pos (Or.inr f)]
      refine Or.inl ⟨rfl, ?_⟩
      by_cases q : 48 ≤ S p ∧ S p ≤ 57
      · exact Or.inr (by omega)
      · exact Or.inl (stp_f h (by omega) (rdT_nd h0 q))
def twR (S : Int → Int) (s0 : ((Nat → Int) × (Nat → Int) × (Int → Int) × (Int → Int) × (Int → Int) × (Int → Int) × (Int → Int))) (n p a : Int) (Q : Int → ((Nat → Int) × (Nat → Int) × (Int → Int) × (Int → Int) × (Int → Int) × (Int → Int) × (Int → Int)) → Prop) : Prop := ((twP n S p a).1 = -9 ∧ stp S s0 n (twP n S p a).2) ∨ ((0 ≤ (twP n S p a).1 ∧ (twP n S p a).1 ≤ 99) ∧ (twP n S p a).2 = p + 1 + 1 ∧ p + 1 + 1 ≤ n ∧ ∃ s2 : ((Nat → Int) × (Nat → Int) × (Int → Int) × (Int → Int) × (Int → Int) × (Int → Int) × (Int → Int)), adv S s0 (p + 1 + 1) s2 ∧ Q (twP n S p a).1 s2)
theorem tw_c {S : Int → Int} {s0 s : ((Nat → Int) × (Nat → Int) × (Int → Int) × (Int → Int) × (Int → Int) × (Int → Int) × (Int → Int))} {p n a : Int} {Q : Int → ((Nat → Int) × (Nat → Int) × (Int → Int) × (Int → Int) × (Int → Int) × (Int → Int) × (Int → Int)) → Prop} (h : adv S s0 p s) (hp : p ≤ n) (h0 : ¬ s.1 0 = 0) (ha : 0 ≤ a)
    (h1 : ∀ v : Int, 0 ≤ v ∧ v ≤ 9 → S p = v + 48 → p < n → ∃ s1 : ((Nat → Int) × (Nat → Int) × (Int → Int) × (Int → Int) × (Int → Int) × (Int → Int) × (Int → Int)), adv S s0 (p + 1) s1 ∧ ¬ s1.1 0 = 0 ∧ ∀ w : Int, 0 ≤ w ∧ w ≤ 9 → S (p + 1) = w + 48 → p + 1 < n → (w < (if v = 0 then a else 0) → stp S s0 n (p + 1)) ∧ (¬ w < (if v = 0 then a else 0) → ∃ s2 : ((Nat → Int) × (Nat → Int) × (Int → Int) × (Int → Int) × (Int → Int) × (Int → Int) × (Int → Int)), adv S s0 (p + 1 + 1) s2 ∧ Q (10 * v + w) s2)) :
    twR S s0 n p a Q := by
  unfold twR
  rcases fg_c h hp h0 (Int.le_refl 0) with ⟨e, q⟩ | ⟨e, q1, q2, q3⟩
  · rw [twP_1 e]
    rcases q with q | q
    · exact Or.inl ⟨rfl, q⟩
    · omega
  · obtain ⟨s1, k1, k2, k3⟩ := h1 (S p - 48) ⟨q2, q3⟩ (by omega) q1
    rcases fg_c (a := if S p - 48 = 0 then a else 0) k1 (show p + 1 ≤ n by omega) k2 (by split <;> omega) with ⟨e2, r⟩ | ⟨e2, r1, r2, r3⟩
    · rw [twP_2 e (by omega) e2]
      refine Or.inl ⟨rfl, ?_⟩
      rcases r with r | ⟨r1, r2, r3, r4⟩
      · exact r
      · exact (k3 (S (p + 1) - 48) ⟨r2, r3⟩ (by omega) r1).1 r4
    · have r0 : 0 ≤ S (p + 1) - 48 := by
        have : 0 ≤ (if S p - 48 = 0 then a else 0 : Int) := by split <;> omega
        omega
      rw [twP_3 e (by omega) e2 (by omega)]
      obtain ⟨s2, m1, m2⟩ := (k3 (S (p + 1) - 48) ⟨r0, r3⟩ (by omega) r1).2 (by omega)
      exact Or.inr ⟨⟨by show 0 ≤ 10 * (S p - 48) + (S (p + 1) - 48); omega, by show 10 * (S p - 48) + (S (p + 1) - 48) ≤ 99; omega⟩, rfl, by omega, s2, m1, m2⟩
section RD
variable {S : Int → Int} {s0 : ((Nat → Int) × (Nat → Int) × (Int → Int) × (Int → Int) × (Int → Int) × (Int → Int) × (Int → Int))} {p n : Int} {g h : Nat → Int} {T0 T1 T3 T4 T5 : Int → Int}
theorem rdT_p {c v : Int} (e : g 0 = 65) (hc : c = v + 48) (hv : 0 ≤ v ∧ v ≤ 9) : rdTakes c (g, h, T0, T1, T3, T4, T5) = rdPerson v (up g 1 (g 1 + 1)) h T0 T1 T3 T4 T5 := by
  rw [rdTakes_m, if_neg (by omega), if_neg (fun q => q (by omega)), if_pos e, show c - 48 = v by omega]
theorem rdT_c {c v : Int} (e : g 0 = 67) (hc : c = v + 48) (hv : 0 ≤ v ∧ v ≤ 9) : rdTakes c (g, h, T0, T1, T3, T4, T5) = rdCounter v (up g 1 (g 1 + 1)) h T0 T1 T3 T4 T5 := by
  rw [rdTakes_m, if_neg (by omega), if_neg (fun q => q (by omega)), if_neg (by omega), if_pos e, show c - 48 = v by omega]
theorem rdT_n {c v : Int} (e : g 0 = 78) (hc : c = v + 48) (hv : 0 ≤ v ∧ v ≤ 9) : rdTakes c (g, h, T0, T1, T3, T4, T5) = rdBar v (up g 1 (g 1 + 1)) h T0 T1 T3 T4 T5 := by
  rw [rdTakes_m, if_neg (by omega), if_neg (fun q => q (by omega)), if_neg (by omega), if_neg (by omega), show c - 48 = v by omega]
/-- a person's arm -/
theorem tw_A (k : adv S s0 p (g, h, T0, T1, T3, T4, T5)) (hp : p ≤ n) (e0 : g 0 = 65) (e1 : g 1 = 0) (e2 : g 2 = 0) :
    twR S s0 n p 1 (fun v s2 => ∃ g' : Nat → Int, (g' 0 = 65 ∧ g' 1 = 2 ∧ g' 2 = 0) ∧ s2 = (g', h, uI T0 (h 6) v, T1, T3, T4, T5)) := by
  refine tw_c k hp (by show ¬ g 0 = 0; omega) (by decide) (fun v hv hc hn => ?_)
  have st : rdTakes (S p) (g, h, T0, T1, T3, T4, T5) = (1, up (up g 1 (g 1 + 1)) 2 (g 2 * 10 + v), h, T0, T1, T3, T4, T5) := by
    rw [rdT_p e0 hc hv]
    unfold rdPerson
    rw [if_neg (by show ¬ g 1 + 1 = 2; omega), if_neg (by show ¬ g 1 + 1 = 4; omega)]
    rfl
  have k1 := adv_s k st rfl
  refine ⟨_, k1, by show ¬ g 0 = 0; omega, fun w hw hc2 hn2 => ?_⟩
  have st2 : rdTakes (S (p + 1)) (up (up g 1 (g 1 + 1)) 2 (g 2 * 10 + v), h, T0, T1, T3, T4, T5) = (bI (0 < (g 2 * 10 + v) * 10 + w), up (up (up (up (up g 1 (g 1 + 1)) 2 (g 2 * 10 + v)) 1 (g 1 + 1 + 1)) 2 ((g 2 * 10 + v) * 10 + w)) 2 0, h, uI T0 (h 6) ((g 2 * 10 + v) * 10 + w), T1, T3, T4, T5) := by
    rw [rdT_p (by show g 0 = 65; exact e0) hc2 hw]
    unfold rdPerson
    rw [if_pos (by show g 1 + 1 + 1 = 2; omega)]
    rfl
  rw [show (g 2 * 10 + v) * 10 + w = 10 * v + w by omega] at st2
  refine ⟨fun q => stp_f k1 hn2 ?_, fun q => ⟨_, adv_s k1 st2 (bI_t (by split at q <;> omega)), by refine ⟨_, ?_, rfl⟩; exact ⟨e0, show g 1 + 1 + 1 = 2 by omega, rfl⟩⟩⟩
  rw [st2]
  exact bI_f (by split at q <;> omega)
/-- a person's fee -/
theorem tw_B (k : adv S s0 p (g, h, T0, T1, T3, T4, T5)) (hp : p ≤ n) (e0 : g 0 = 65) (e1 : g 1 = 2) (e2 : g 2 = 0) :
    twR S s0 n p 0 (fun v s2 => ∃ g' : Nat → Int, g' 0 = 0 ∧ s2 = (g', up h 6 (h 6 + 1), T0, uI T1 (h 6) v, T3, T4, T5)) := by
  refine tw_c k hp (by show ¬ g 0 = 0; omega) (by decide) (fun v hv hc hn => ?_)
  have st : rdTakes (S p) (g, h, T0, T1, T3, T4, T5) = (1, up (up g 1 (g 1 + 1)) 2 (g 2 * 10 + v), h, T0, T1, T3, T4, T5) := by
    rw [rdT_p e0 hc hv]
    unfold rdPerson
    rw [if_neg (by show ¬ g 1 + 1 = 2; omega), if_neg (by show ¬ g 1 + 1 = 4; omega)]
    rfl
  have k1 := adv_s k st rfl
  refine ⟨_, k1, by show ¬ g 0 = 0; omega, fun w hw hc2 hn2 => ?_⟩
  have st2 : rdTakes (S (p + 1)) (up (up g 1 (g 1 + 1)) 2 (g 2 * 10 + v), h, T0, T1, T3, T4, T5) = (1, up (up (up (up (up g 1 (g 1 + 1)) 2 (g 2 * 10 + v)) 1 (g 1 + 1 + 1)) 2 ((g 2 * 10 + v) * 10 + w)) 0 0, up h 6 (h 6 + 1), T0, uI T1 (h 6) ((g 2 * 10 + v) * 10 + w), T3, T4, T5) := by
    rw [rdT_p (by show g 0 = 65; exact e0) hc2 hw]
    unfold rdPerson
    rw [if_neg (by show ¬ g 1 + 1 + 1 = 2; omega), if_pos (by show g 1 + 1 + 1 = 4; omega)]
    rfl
  rw [show (g 2 * 10 + v) * 10 + w = 10 * v + w by omega] at st2
  exact ⟨fun q => by split at q <;> omega, fun q => ⟨_, adv_s k1 st2 rfl, by refine ⟨_, ?_, rfl⟩; rfl⟩⟩
/-- a counter's price -/
theorem tw_C (k : adv S s0 p (g, h, T0, T1, T3, T4, T5)) (hp : p ≤ n) (e0 : g 0 = 67) (e1 : g 1 = 0) (e2 : g 2 = 0) :
    twR S s0 n p 1 (fun v s2 => ∃ g' : Nat → Int, (g' 0 = 67 ∧ g' 1 = 2 ∧ g' 2 = 0) ∧ s2 = (g', h, T0, T1, T3, uI T4 (h 7) v, T5)) := by
  refine tw_c k hp (by show ¬ g 0 = 0; omega) (by decide) (fun v hv hc hn => ?_)
  have st : rdTakes (S p) (g, h, T0, T1, T3, T4, T5) = (1, up (up g 1 (g 1 + 1)) 2 (g 2 * 10 + v), h, T0, T1, T3, T4, T5) := by
    rw [rdT_c e0 hc hv]
    unfold rdCounter
    rw [if_neg (by show ¬ g 1 + 1 = 2; omega), if_neg (by show ¬ g 1 + 1 = 6; omega)]
    rfl
  have k1 := adv_s k st rfl
  refine ⟨_, k1, by show ¬ g 0 = 0; omega, fun w hw hc2 hn2 => ?_⟩
  have st2 : rdTakes (S (p + 1)) (up (up g 1 (g 1 + 1)) 2 (g 2 * 10 + v), h, T0, T1, T3, T4, T5) = (bI (0 < (g 2 * 10 + v) * 10 + w), up (up (up (up (up g 1 (g 1 + 1)) 2 (g 2 * 10 + v)) 1 (g 1 + 1 + 1)) 2 ((g 2 * 10 + v) * 10 + w)) 2 0, h, T0, T1, T3, uI T4 (h 7) ((g 2 * 10 + v) * 10 + w), T5) := by
    rw [rdT_c (by show g 0 = 67; exact e0) hc2 hw]
    unfold rdCounter
    rw [if_pos (by show g 1 + 1 + 1 = 2; omega)]
    rfl
  rw [show (g 2 * 10 + v) * 10 + w = 10 * v + w by omega] at st2
  refine ⟨fun q => stp_f k1 hn2 ?_, fun q => ⟨_, adv_s k1 st2 (bI_t (by split at q <;> omega)), by refine ⟨_, ?_, rfl⟩; exact ⟨e0, show g 1 + 1 + 1 = 2 by omega, rfl⟩⟩⟩
  rw [st2]
  exact bI_f (by split at q <;> omega)
/-- its stock's first two figures -/
theorem tw_D (k : adv S s0 p (g, h, T0, T1, T3, T4, T5)) (hp : p ≤ n) (e0 : g 0 = 67) (e1 : g 1 = 2) (e2 : g 2 = 0) :
    twR S s0 n p 0 (fun v s2 => ∃ g' : Nat → Int, (g' 0 = 67 ∧ g' 1 = 4 ∧ g' 2 = v) ∧ s2 = (g', h, T0, T1, T3, T4, T5)) := by
  refine tw_c k hp (by show ¬ g 0 = 0; omega) (by decide) (fun v hv hc hn => ?_)
  have st : rdTakes (S p) (g, h, T0, T1, T3, T4, T5) = (1, up (up g 1 (g 1 + 1)) 2 (g 2 * 10 + v), h, T0, T1, T3, T4, T5) := by
    rw [rdT_c e0 hc hv]
    unfold rdCounter
    rw [if_neg (by show ¬ g 1 + 1 = 2; omega), if_neg (by show ¬ g 1 + 1 = 6; omega)]
    rfl
  have k1 := adv_s k st rfl
  refine ⟨_, k1, by show ¬ g 0 = 0; omega, fun w hw hc2 hn2 => ?_⟩
  have st2 : rdTakes (S (p + 1)) (up (up g 1 (g 1 + 1)) 2 (g 2 * 10 + v), h, T0, T1, T3, T4, T5) = (1, up (up (up (up g 1 (g 1 + 1)) 2 (g 2 * 10 + v)) 1 (g 1 + 1 + 1)) 2 ((g 2 * 10 + v) * 10 + w), h, T0, T1, T3, T4, T5) := by
    rw [rdT_c (by show g 0 = 67; exact e0) hc2 hw]
    unfold rdCounter
    rw [if_neg (by show ¬ g 1 + 1 + 1 = 2; omega), if_neg (by show ¬ g 1 + 1 + 1 = 6; omega)]
    rfl
  exact ⟨fun q => by split at q <;> omega, fun q => ⟨_, adv_s k1 st2 rfl, by refine ⟨_, ?_, rfl⟩; exact ⟨e0, show g 1 + 1 + 1 = 4 by omega, show (g 2 * 10 + v) * 10 + w = 10 * v + w by omega⟩⟩⟩
/-- and the last two -/
theorem tw_E {x : Int} (k : adv S s0 p (g, h, T0, T1, T3, T4, T5)) (hp : p ≤ n) (e0 : g 0 = 67) (e1 : g 1 = 4) (e2 : g 2 = x) :
    twR S s0 n p 0 (fun v s2 => ∃ g' : Nat → Int, g' 0 = 0 ∧ s2 = (g', up h 7 (h 7 + 1), T0, T1, T3, T4, uI T5 (h 7) (100 * x + v))) := by
  refine tw_c k hp (by show ¬ g 0 = 0; omega) (by decide) (fun v hv hc hn => ?_)
  have st : rdTakes (S p) (g, h, T0, T1, T3, T4, T5) = (1, up (up g 1 (g 1 + 1)) 2 (g 2 * 10 + v), h, T0, T1, T3, T4, T5) := by
    rw [rdT_c e0 hc hv]
    unfold rdCounter
    rw [if_neg (by show ¬ g 1 + 1 = 2; omega), if_neg (by show ¬ g 1 + 1 = 6; omega)]
    rfl
  have k1 := adv_s k st rfl
  refine ⟨_, k1, by show ¬ g 0 = 0; omega, fun w hw hc2 hn2 => ?_⟩
  have st2 : rdTakes (S (p + 1)) (up (up g 1 (g 1 + 1)) 2 (g 2 * 10 + v), h, T0, T1, T3, T4, T5) = (1, up (up (up (up (up g 1 (g 1 + 1)) 2 (g 2 * 10 + v)) 1 (g 1 + 1 + 1)) 2 ((g 2 * 10 + v) * 10 + w)) 0 0, up h 7 (h 7 + 1), T0, T1, T3, T4, uI T5 (h 7) ((g 2 * 10 + v) * 10 + w)) := by
    rw [rdT_c (by show g 0 = 67; exact e0) hc2 hw]
    unfold rdCounter
    rw [if_neg (by show ¬ g 1 + 1 + 1 = 2; omega), if_pos (by show g 1 + 1 + 1 = 6; omega)]
    rfl
  rw [show (g 2 * 10 + v) * 10 + w = 100 * x + (10 * v + w) by omega] at st2
  exact ⟨fun q => by split at q <;> omega, fun q => ⟨_, adv_s k1 st2 rfl, by refine ⟨_, ?_, rfl⟩; rfl⟩⟩
end RD
