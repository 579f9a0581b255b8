/-! THE CLAIM OUT OF ONE WALK OF THE LAW'S BODY. Your part is whole_start (and what it stands on); all else here is the same for every law, but numbers. -/
def R_law : String := "BuyersArmLaw"
def lw_P (b : Addr) (xs : List Int32) (args : Array Value) (s : State) : Prop := args = #[.ref b] ∧ s.IntsAt b xs ∧ xs.length ≤ 384 ∧ (Jvm.Cond.and given_1 narrow_1).before args s = true
def lw_Q (_ : Array Value) (s : State) (o : Outcome) (t : State) : Prop := o = .returned (some (.int 1)) ∧ Framed s o t [] 600000 7302250
def lw_Z (below : List Frame) (a : Array Value) (s : State) : State → Prop := fun t => ∃ o, t.status = .running ∧ Ended t below o ∧ lw_Q a s o t
/-- the law's own end, with 1 on the stack, nothing written that was there before, its room as the claim has it -/
theorem lw_ret {p : Program} {l : Launch} {e : Env} {s : State} {m : MethodId} {below : List Frame} {meth : Method} {c : Code} {b : Nat} (hx : p.tables.exec = Jvm.exec) (hb : c.code = code) (hr : meth.sig.returnType = ret) (hlocks : meth.locks = false) {pc : Nat} {H : Heap} {ls : Array Slot} (hdg : decode code pc = .ok (.ireturn, 1)) : W p l e room_1 s m #[Value.ref b] below meth c H [] 600000 7302250 (lw_Z below #[Value.ref b] s) (F0 m pc ls [.int 1]) := by
  intro T hT X
  obtain ⟨fs, hret, hrun, hended, hW, hframe⟩ := X.leave (v := some (.int 1)) (hlocks := hlocks) (fun h => by rw [hr] at h; cases h)
  have hmeth' : T.vm.method? m = some meth := X.method'
  refine ⟨T.setFrames fs, ?_, .returned (some (.int 1)), hrun, hended, rfl, ⟨_, rfl⟩, hW, hframe⟩
  jvm_step X.here [X.here.top, hx, hb, hdg, hmeth', hr, ret, narrow_b1]
  (try refine ⟨rfl, ?_⟩); (try refine ⟨rfl, ?_⟩)
  first | (intro acts; rw [hret _ acts rfl rfl rfl]) | rw [hret _ _ rfl rfl rfl]
  exact Steps.refl _
/-- what holds at the law's entry: the machine, the code, the tables' words (any of lw_tbl by 'hts w (by decide +kernel)'), the script of L ints xs at the cell b, what the Statement gives of the start (any of its parts by flat_of_before) -/
def lw_At (p : Program) (s : State) (m : MethodId) (meth : Method) (c : Code) (b L : Nat) (xs : Nat → Int32) : Prop :=
  p.tables.exec = Jvm.exec ∧ c.code = code ∧ meth.sig.returnType = ret ∧ c.maxLocals = 4 ∧ s.vm.findClass R_law = some m.cls ∧ (∀ w ∈ lw_tbl, w.before #[Value.ref b] s = true) ∧ va_X b L xs s s.heap ∧ b < s.heap.size ∧ meth.locks = false ∧ (Jvm.Cond.and given_1 narrow_1).before #[Value.ref b] s = true
def bL (h8 h9 : Nat) (u : Nat → Nat) (k : Nat) : Nat := if k = 9 then h9 else bN h8 u k
def aL (u v : Nat → Nat) (k : Nat) : Nat → Nat := if k = 9 then v else aN u k
theorem zz {lo hi : Int} (h1 : lo ≤ 0) (h2 : 0 ≤ hi) : bd (fun _ => (0 : Int)) lo hi := bd_0 h1 h2
theorem jj0 (h8 h9 : Nat) (u v : Nat → Nat) : JJ (bL h8 h9 u) (aL u v) (slN u) (rwN u) gN GN := by
  have a1 : J1 0 (fun _ => 0) 0 (fun _ => 0) := ⟨rfl, rfl, by omega, zz (by decide) (by decide)⟩
  have rb : rdB (fun _ => 0) (fun _ => 0) (fun _ => 0) (fun _ => 0) (fun _ => 0) := ⟨zz (by decide) (by decide), zz (by decide) (by decide), zz (by decide) (by decide), zz (by decide) (by decide), zz (by decide) (by decide)⟩
  have a2 : J2 (fun _ => 0) (fun _ => 0) (fun _ => 0) (fun _ => 0) (fun _ => 0) (fun _ => 0) (fun _ => 0) (fun _ => 0) (fun _ => 0) (fun _ => 0) (fun _ => 0) (fun _ => 0) (fun _ => 0) (fun _ => 0) (fun _ => 0) := ⟨rb, rb, zz (by decide) (by decide), zz (by decide) (by decide), zz (by decide) (by decide), zz (by decide) (by decide), zz (by decide) (by decide)⟩
  have a3 : J3 0 0 0 0 (fun _ => 0) (fun _ => 0) (fun _ => 0) (fun _ => 0) (fun _ => 0) (fun _ => 0) (fun _ => 0) (fun _ => 0) 0 (fun _ => 0) := ⟨⟨rfl, rfl, by omega, by omega⟩, ⟨zz (by decide) (by decide), zz (by decide) (by decide), fun j hj => by omega⟩, ⟨zz (by decide) (by decide), zz (by decide) (by decide), fun j hj => by omega⟩, ⟨zz (by decide) (by decide), zz (by decide) (by decide), fun i c _ _ => bitI_z c⟩, ⟨zz (by decide) (by decide), zz (by decide) (by decide), fun j hj => by omega⟩, ⟨by omega, zz (by decide) (by decide), fun j hj => by omega⟩⟩
  have a4 : J4 0 0 0 0 30 30 (fun _ => 0) (fun _ => 0) (fun _ => 0) (fun _ => 0) (fun _ => 0) (fun _ => 0) (fun _ => 0) (fun _ => 0) (fun _ => 0) (fun _ => 0) (fun _ => 0) (fun _ => 0) := ⟨⟨rfl, rfl, by omega, by omega⟩, ⟨zz (by decide) (by decide), zz (by decide) (by decide), fun j hj => by omega⟩, ⟨zz (by decide) (by decide), zz (by decide) (by decide), fun j hj => by omega⟩, ⟨rfl, rfl, rfl, rfl⟩, ⟨zz (by decide) (by decide), zz (by decide) (by decide), zz (by decide) (by decide), zz (by decide) (by decide)⟩, fun j hj => by omega, stk_0 (zz (by decide) (by decide)), stk_0 (zz (by decide) (by decide))⟩
  have a5 : ∀ k : Int, J5 k 0 0 0 30 0 (fun _ => 0) (fun _ => 0) (fun _ => 0) (fun _ => 0) (fun _ => 0) (fun _ => 0) (fun _ => 0) (fun _ => 0) := fun k => ⟨⟨rfl, Or.inl rfl⟩, ⟨zz (by decide) (by decide), zz (by decide) (by decide), zz (by decide) (by decide), zz (by decide) (by decide), zz (by decide) (by decide), zz (by decide) (by decide)⟩, fun h => absurd h (by decide)⟩
  have a6 : J6 0 0 (fun _ => 0) (fun _ => 0) (fun _ => 0) (fun _ => 0) (fun _ => 0) (fun _ => 0) (fun _ => 0) (fun _ => 0) (fun _ => 0) (fun _ => 0) (fun _ => 0) := ⟨⟨rfl, by omega, by omega⟩, ⟨rfl, rfl, rfl, rfl, rfl⟩, ⟨zz (by decide) (by decide), zz (by decide) (by decide), zz (by decide) (by decide), zz (by decide) (by decide), zz (by decide) (by decide)⟩, fun j hj => by omega, fun j hj => by omega, zz (by decide) (by decide)⟩
  have a7 : J7 0 0 (fun _ => 0) (fun _ => 0) (fun _ => 0) (fun _ => 0) (fun _ => 0) (fun _ => 0) (fun _ => 0) := by
    refine ⟨⟨rfl, by omega, by omega⟩, ⟨zz (by decide) (by decide), zz (by decide) (by decide)⟩, ⟨zz (by decide) (by decide), zz (by decide) (by decide), zz (by decide) (by decide), zz (by decide) (by decide), zz (by decide) (by decide)⟩, fun j hj => by omega, fun x y hxy i j hi hj => ?_⟩
    show bitI 0 j = 1 ↔ _
    rw [bitI_z]
    constructor
    · intro q
      omega
    · rintro ⟨k, hk, -⟩
      omega
  have a8 : J8 (fun _ => 0) (fun _ => 0) (fun _ => 0) (fun _ => 0) (fun _ => 0) := ⟨zz (by decide) (by decide), zz (by decide) (by decide), zz (by decide) (by decide), zz (by decide) (by decide), zz (by decide) (by decide)⟩
  exact ⟨a1, ⟨a2, zz (by decide) (by decide)⟩, a3, a4, a5 0, a5 1, a6, a7, a8, rfl, rfl, fun j _ => rfl⟩
set_option maxRecDepth 100000 in
set_option maxHeartbeats 4000000 in
theorem whole_start {p : Program} {e : Env} {s : State} {m : MethodId} {below : List Frame} {meth : Method} {c : Code} (l : Launch) (hflags : l.flags = flags0) {b L : Nat} {xs : Nat → Int32} (hL : L ≤ 384) (C0 : lw_At p s m meth c b L xs) : W p l e room_1 s m #[Value.ref b] below meth c s.heap [] 0 0 (lw_Z below #[Value.ref b] s) (entryFrame m ([Value.ref b] : List Value).toArray 4) := by
  obtain ⟨hx, hb, hr, hml, hown, hts, hX, hbl, hlocks, hgv⟩ := id C0
  have hg : ∀ w ∈ gtb, w.before #[Value.ref b] s = true := fun w h => hts w (List.mem_filter.mp h).1
  obtain ⟨c0, i0, k0⟩ := u_known (C := RX0) (T := TX0) (N := 10) (n := 10) hg inX0 (hg _ w1_186)
  obtain ⟨c1, i1, k1⟩ := u_known (C := RX1) (T := TX1) (N := 4) (n := 4) hg inX1 (hg _ w2_6)
  obtain ⟨c2, i2, k2⟩ := u_known (C := RX2) (T := TX2) (N := 3) (n := 3) hg inX2 (hg _ w1_228)
  obtain ⟨c3, i3, k3⟩ := u_known (C := RX3) (T := TX3) (N := 4) (n := 4) hg inX3 (hg _ w1_41)
  obtain ⟨c4, i4, k4⟩ := u_known (C := RX4) (T := TX4) (N := 2) (n := 2) hg inX4 (hg _ w1_24)
  obtain ⟨c5, i5, k5⟩ := u_known (C := RX5) (T := TX5) (N := 9) (n := 9) hg inX5 (hg _ w1_116)
  obtain ⟨c6, i6, k6⟩ := u_known (C := RX6) (T := TX6) (N := 10) (n := 10) hg inX6 (hg _ w1_60)
  obtain ⟨c7, i7, k7⟩ := u_known (C := RX7) (T := TX7) (N := 5) (n := 5) hg inX7 (hg _ w1_161)
  obtain ⟨c8, i8, k8⟩ := u_known (C := RX8) (T := TX8) (N := 10) (n := 10) hg inX8 (hg _ w1_16)
  obtain ⟨c9, i9, k9⟩ := u_known (C := RX9) (T := TX9) (N := 50) (n := 50) hg inX9 (hg _ w3_167)
  obtain ⟨D, hD⟩ : ∃ D : va_G, ∀ (k : Nat) (q : vw_C), vwCl[k]? = some q → u_Kn s q.1 q.2.1 q.2.2 (D.1 k) (D.2 k) := by
    refine ⟨(fun k => match k with | 0 => c0 | 1 => c1 | 2 => c2 | 3 => c3 | 4 => c4 | 5 => c5 | 6 => c6 | 7 => c7 | 8 => c8 | _ => c9, fun k => match k with | 0 => i0 | 1 => i1 | 2 => i2 | 3 => i3 | 4 => i4 | 5 => i5 | 6 => i6 | 7 => i7 | 8 => i8 | _ => i9), ?_⟩
    intro k q hq
    match k, hq with
    | 0, hq => cases hq; exact k0
    | 1, hq => cases hq; exact k1
    | 2, hq => cases hq; exact k2
    | 3, hq => cases hq; exact k3
    | 4, hq => cases hq; exact k4
    | 5, hq => cases hq; exact k5
    | 6, hq => cases hq; exact k6
    | 7, hq => cases hq; exact k7
    | 8, hq => cases hq; exact k8
    | 9, hq => cases hq; exact k9
    | k + 10, hq => simp at hq
  obtain ⟨a0, ka0, cp0, n0, m0, q0⟩ := Cond.arrayClass_spec (hg _ w1_39)
  obtain ⟨a1, ka1, cp1, n1, m1, q1⟩ := Cond.arrayClass_spec (hg _ w4_83)
  obtain ⟨cp2, a2, ka2, f2, -, m2, q2, n2⟩ := Cond.arrayOver_spec (hts _ w1_159)
  obtain ⟨cp3, a3, ka3, f3, -, m3, q3, n3⟩ := arrayOverA_spec (hts _ w1_167)
  obtain ⟨d, hd⟩ : ∃ d : Nat → ClassId, va_K D vwCl (TYs d) s := by
    refine ⟨fun k => match k with | 0 => a0 | 1 => a1 | 2 => a2 | _ => a3, hD, fun k q hq => ?_⟩
    match k, hq with
    | 0, hq => cases hq; exact ⟨fun n z => ⟨fun k h => (by cases h), ka0, m0, cp0, q0⟩, n0⟩
    | 1, hq => cases hq; exact ⟨fun n z => ⟨fun k h => (by cases h), ka1, m1, cp1, q1⟩, n1⟩
    | 2, hq => cases hq; exact ⟨fun n z => ⟨fun k h => (by cases h), ka2, m2, cp2, q2⟩, ka2, cp2, m2, q2, f2, n2⟩
    | 3, hq => cases hq; exact ⟨fun n z => ⟨fun k h => (by cases h), ka3, m3, cp3, q3⟩, n3⟩
    | k + 4, hq => simp [TYs] at hq
  have hO : AOs s := ⟨hts _ w1_159, hts _ w1_167, List.forall_mem_cons.mpr ⟨va_Nw.of rfl (hts _ w1_25), List.forall_mem_cons.mpr ⟨va_Nw.of rfl (hts _ w1_42), List.forall_mem_cons.mpr ⟨va_Nw.of rfl (hts _ w1_61), List.forall_mem_cons.mpr ⟨va_Nw.of rfl (hts _ w1_117), List.forall_mem_cons.mpr ⟨va_Nw.of rfl (hts _ w1_162), List.forall_mem_cons.mpr ⟨va_Nw.of rfl (hts _ w1_187), List.forall_mem_cons.mpr ⟨va_Nw.of rfl (hts _ w1_229), List.forall_mem_cons.mpr ⟨va_Nw.of rfl (hts _ w2_7), fun _ h => absurd h List.not_mem_nil⟩⟩⟩⟩⟩⟩⟩⟩⟩
  have C : CX p s m #[Value.ref b] c D d cL_law 4 RL := ⟨hx, hb, hml, hown, hg, hd, va_Nw.of rfl (hts _ w3_116)⟩
  have hA : ∀ q, s.heap.size ≤ q → (fun q : Nat => s.heap.size ≤ q) q := fun _ h => h
  have X : SX s (fun q : Nat => s.heap.size ≤ q) b L xs := ⟨hX, hbl, Nat.not_le.mpr hbl, hL⟩
  have body : V p l e room_1 s m #[Value.ref b] below meth c (fun q : Nat => s.heap.size ≤ q) D (lw_Z below #[Value.ref b] s) 4 0 0 [] [(0, .ref b)] 0 [] := by
    refine V_new (pc := 0) inX8 tyX8 tyX8_ok (ci := 8) rfl w1_15 w1_16 w1_1 bkX8 C hA dL_law_0 (Nat.le_of_ble_eq_true rfl) (Nat.le_of_ble_eq_true rfl) (fun h8 => ?_)
    refine V_eqc (c' := 1) (s' := 10) (ws' := [(h8, .inr (8, bX8))]) rfl rfl rfl ?_
    refine V_dup (pc := 3) C dL_law_3 rfl ?_
    refine V_callI (pc := 4) (wr := []) (wn := fun u => clW d (bN h8 u) (aN u) (slN u) (rwN u) gN GN) w1_19 w1_17 w1_18 w1_1 rfl (by decide +kernel) C hO hA dL_law_4 (c_X8_init l D d h8) 0 [] rfl rfl rfl (by decide) (Nat.le_of_ble_eq_true rfl) ⟨Nat.le_of_ble_eq_true rfl, Nat.le_of_ble_eq_true rfl⟩ ⟨Nat.le_of_ble_eq_true rfl, Nat.le_of_ble_eq_true rfl⟩ (fun _ => rfl) (fun u => ?_)
    refine V_eqc (c' := 63) (s' := 10300) (ws' := clW d (bN h8 u) (aN u) (slN u) (rwN u) gN GN) rfl rfl rfl ?_
    refine V_astore_n (lv' := [(1, .ref h8), (0, .ref b)]) (pc := 7) C dL_law_7 rfl (by decide) rfl ?_
    refine V_new (pc := 8) inX9 tyX9 tyX9_ok (ci := 9) rfl w3_166 w3_167 w1_10 bkX9 C hA dL_law_8 (Nat.le_of_ble_eq_true rfl) (Nat.le_of_ble_eq_true rfl) (fun h9 => ?_)
    refine V_eqc (c' := 64) (s' := 10350) (ws' := clW d (bN h8 u) (aN u) (slN u) (rwN u) gN GN ++ [(h9, .inr (9, bX9))]) rfl rfl rfl ?_
    refine V_dup (pc := 11) C dL_law_11 rfl ?_
    refine V_callI (pc := 12) (wr := clW d (bN h8 u) (aN u) (slN u) (rwN u) gN GN) (wn := fun v => lawW d (bL h8 h9 u) (aL u v) (slN u) (rwN u) gN GN) w3_170 w3_168 w3_169 w1_10 rfl (by decide +kernel) C hO hA dL_law_12 (c_X9_init l D d h9) 63 [0, 1, 2, 3, 4, 5, 6, 7, 8, 9, 10, 11, 12, 13, 14, 15, 16, 17, 18, 19, 20, 21, 22, 23, 24, 25, 26, 27, 28, 29, 30, 31, 32, 33, 34, 35, 36, 37, 38, 39, 40, 41, 42, 43, 44, 45, 46, 47, 48, 49, 50, 51, 52, 53, 54, 55, 56, 57, 58, 59, 60, 61, 62] rfl rfl rfl (by decide) (Nat.le_of_ble_eq_true rfl) ⟨Nat.le_of_ble_eq_true rfl, Nat.le_of_ble_eq_true rfl⟩ ⟨Nat.le_of_ble_eq_true rfl, Nat.le_of_ble_eq_true rfl⟩ (fun _ => rfl) (fun v => ?_)
    refine V_eqc (c' := 98) (s' := 19494) (ws' := lawW d (bL h8 h9 u) (aL u v) (slN u) (rwN u) gN GN) rfl rfl rfl ?_
    refine V_astore_n (lv' := [(2, .ref h9), (1, .ref h8), (0, .ref b)]) (pc := 15) C dL_law_15 rfl (by decide) rfl ?_
    refine V_iconst (pc := 16) C dL_law_16 ?_
    refine V_istore_n (lv' := [(3, .int (iI 0)), (2, .ref h9), (1, .ref h8), (0, .ref b)]) (pc := 17) C dL_law_17 rfl (by decide) rfl ?_
    refine law_loop (b := bL h8 h9 u) C X (fun a g G i => ?_) (L + 1) 0 (aL u v) gN GN (by omega) (by omega) (by omega) (jj0 h8 h9 u v)
    refine V_iconst (pc := 1343) C dL_law_1343 ?_
    intro H locs ls hP hD9 hS hl
    rw [show iI 1 = 1 from rfl]
    refine va_forget (fun q hq => hS.2.2 q hq) (W.widen (k := 600000) (n := 7302250) (Nat.le_of_ble_eq_true rfl) (Nat.le_of_ble_eq_true rfl) ?_)
    exact lw_ret hx hb hr hlocks dL_law_1344
  have hl := lv_entry ([.ref b]) (n := 4) (Nat.le_of_ble_eq_true rfl)
  rw [lg_entry_eq]
  exact body s.heap [] _ (fun k q h => by simp at h) ⟨fun i j p q h => by simp at h, fun k q h => by simp at h⟩ va_S.rf hl
