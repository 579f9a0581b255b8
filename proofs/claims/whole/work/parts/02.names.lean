def va_AOA (ty : FieldType) (U : State) : Prop := (Cond.arrayOver (.array ty)).before #[] U = true
theorem va_AOA.use {ty : FieldType} {A : Array Value} {U : State} (h : va_AOA ty U) : (Cond.arrayOver (.array ty)).before A U = true := h
theorem va_AOA.of {ty : FieldType} {A : Array Value} {U : State} (h : (Cond.arrayOver (.array ty)).before A U = true) : va_AOA ty U := h
/-! ===== BEGIN words of one list among another's, by their places ===== -/
theorem goodIn_r {big : List Cond} (ws : List Cond) (ps : List Nat) (hp : ws = ps.filterMap (fun i => big[i]?)) (h : ws.all goodWord = true) : GoodIn big ws := by
  intro w hw
  have h1 := List.all_eq_true.mp h w hw
  rw [hp] at hw
  obtain ⟨i, -, hi⟩ := List.mem_filterMap.mp hw
  have hm : w ∈ big := by first | exact List.mem_of_getElem? hi | exact List.getElem?_mem hi
  exact ⟨hm, good_of_word h1⟩
theorem goodIn_app {big a b : List Cond} (ha : GoodIn big a) (hb : GoodIn big b) : GoodIn big (a ++ b) := fun w h => (List.mem_append.mp h).elim (ha w) (hb w)
theorem goodIn_ca {big a b : List Cond} {c : Cond} (ha : GoodIn big (c :: a)) (hb : GoodIn big b) : GoodIn big (c :: (a ++ b)) := fun w h => (List.mem_cons.mp h).elim (fun e => ha w (List.mem_cons.mpr (Or.inl e))) (fun h => (List.mem_append.mp h).elim (fun h => ha w (List.mem_cons.mpr (Or.inr h))) (hb w))
theorem goodIn_sub {big ws : List Cond} (hm : ∀ w ∈ ws, w ∈ big) (h : ws.all goodWord = true) : GoodIn big ws := fun w hw => ⟨hm w hw, good_of_word (List.all_eq_true.mp h w hw)⟩
/-! ===== END ===== -/

/-! ===== BEGIN new T[n][m]: the outer array a place, the inner ones among the pooled ===== -/
/-- f, but v at every address of l -/
def vr_up {α : Type} (f : Nat → α) (l : List Nat) (v : α) : Nat → α := fun a => if a ∈ l then v else f a
theorem vr_up_in {α : Type} {f : Nat → α} {l : List Nat} {v : α} {a : Nat} (h : a ∈ l) : vr_up f l v a = v := if_pos h
theorem vr_up_ne {α : Type} {f : Nat → α} {l : List Nat} {v : α} {a : Nat} (h : a ∉ l) : vr_up f l v a = f a := if_neg h
theorem vr_rows {L l : List Nat} {f : Nat → va_E} {e : va_E} (h : ∀ a, a ∈ l → a ∉ L) : va_pl L f ++ l.map (fun a => (a, e)) = va_pl (L ++ l) (vr_up f l e) := by
  unfold va_pl
  rw [List.map_append]
  congr 1
  · apply List.map_congr_left
    intro a ha
    rw [vr_up_ne (fun q => h a q ha)]
  · apply List.map_congr_left
    intro a ha
    rw [vr_up_in ha]
theorem vr_lay {X rows : va_W} {x : Nat × va_E} {pl : va_W} {D : va_G} {cl : List vw_C} {H : Heap} (hP : va_P D cl (((X ++ pl) ++ [x]) ++ rows) H) : va_P D cl ((X ++ [x]) ++ (pl ++ rows)) H := by
  rw [List.append_assoc (X ++ pl)] at hP
  have h := va_P.swap hP
  rw [← List.append_assoc X] at h
  have h2 := va_P.swap h
  rw [List.append_assoc (X ++ [x])] at h2
  exact h2
theorem vr_layD {X rows : va_W} {x : Nat × va_E} {pl : va_W} {A : Nat → Prop} (hD : va_D A (((X ++ pl) ++ [x]) ++ rows)) : va_D A ((X ++ [x]) ++ (pl ++ rows)) := by
  rw [List.append_assoc (X ++ pl)] at hD
  have h := va_D.swap hD
  rw [← List.append_assoc X] at h
  have h2 := va_D.swap h
  rw [List.append_assoc (X ++ [x])] at h2
  exact h2
theorem vr_outer (c : ClassId) (N h0 : Nat) : ∀ i : Nat, Jvm.Free.Multi.outerC c N h0 i = arrV c N (fun j => va_rf (if j < i then some (h0 + 1 + j) else none))
  | 0 => by
    show ({ cls := c, slots := Array.replicate N .null, vm := .none } : Cell) = _
    rw [arrV_new]
    refine congrArg (arrV c N) (funext fun j => ?_)
    simp [va_rf]
  | i + 1 => by
    show (Jvm.Free.Multi.outerC c N h0 i).setSlot i (.ref (h0 + 1 + i)) = _
    rw [vr_outer c N h0 i, arrV_store]
    refine congrArg (arrV c N) (funext fun j => ?_)
    by_cases e : j = i
    · subst e
      simp [updV, va_rf]
    · by_cases h : j < i
      · simp [updV, e, h, Nat.lt_succ_of_lt h]
      · simp [updV, e, h, show ¬ j < i + 1 by omega]
section VGM
variable {p : Program} {l : Launch} {e : Env} {R : Room} {s : State} {m : MethodId} {args : Array Value} {below : List Frame} {meth : Method} {c : Code} {H : Heap} {locs : List Loc} {cells slots : Nat} {Q : State → Prop}
variable {cc : ByteArray} {pc : Nat} {ls : Array Slot} {rest : List Value} {D : va_G} {cl : List vw_C} {A : Nat → Prop} {a : Nat} {tys : List (ClassId × FieldType)} {ws : va_W} {H0 : Heap}
theorem va_mna {X : va_W} {L : List Nat} {f : Nat → va_E} {cc : ByteArray} (hexec : p.tables.exec = Jvm.exec) (hb : c.code = cc) {own : String} {index : Nat} {ty : FieldType} {cy : ClassId} (hown : s.vm.findClass own = some m.cls) (hclink : (Cond.classLink own index ("[" ++ (FieldType.array ty).toString)).before args s = true) (hover : va_AOA ty s) (harr : (Cond.arrayClass ty).before args s = true) (hcy : s.vm.findClass (FieldType.array ty).toString = some cy)
    (hK : va_K D cl tys s) (hP : va_P D cl (X ++ va_pl L f) H) (hD : va_D A (X ++ va_pl L f)) (hS : va_S A H0 H locs) (hA : ∀ q, H0.size ≤ q → A q) {n k : Int32} {N' K' : Nat} {z : vp_A} (hn : ¬ n < 0) (hk : ¬ k < 0) (hN : n.toNatClampNeg = N') (hM : k.toNatClampNeg = K')
    (hb1 : N' * 4 ≤ 536870912) (hb2 : K' * componentBytes ty ≤ 536870912) (hb3 : K' ≤ 536870912) (hdf : fits ty (defaultValue ty) = true) (hdd : (defaultValue ty).isDefault = true) (hcells : cells + (1 + N') ≤ R.cells) (hslots : slots + (N' + N' * K') ≤ R.slots) (hz : ∀ c : ClassId, Jvm.Free.Multi.innerC c K' (defaultValue ty) = vp_cell c z) (hdg : decode cc pc = .ok (.multianewarray index 2, 4))
    (kk : ∀ (q : Nat) (r : Nat → Nat) (cA : ClassId) (H1 : Heap), (∀ i j : Nat, i < N' → j < N' → r i = r j → i = j) → (∀ i : Nat, i < N' → r i ∉ L) → va_K D cl (tys ++ [(cA, .array ty)]) s →
      va_P D cl ((X ++ [(q, .inl (cA, N', .inr (.inr (.inr (.inr (fun i => if i < N' then some (r i) else none))))))]) ++ va_pl (L ++ (List.range N').map r) (vr_up f ((List.range N').map r) (.inl (cy, z)))) H1 → va_D A ((X ++ [(q, .inl (cA, N', .inr (.inr (.inr (.inr (fun i => if i < N' then some (r i) else none))))))]) ++ va_pl (L ++ (List.range N').map r) (vr_up f ((List.range N').map r) (.inl (cy, z)))) → va_S A H0 H1 locs →
      W p l e R s m args below meth c H1 locs (cells + 1 + N') (slots + N' + N' * K') Q (F0 m (pc + 4) ls (.ref q :: rest))) : W p l e R s m args below meth c H locs cells slots Q (F0 m pc ls (.int k :: .int n :: rest)) := by
  subst hN
  subst hM
  intro T hT Xs
  obtain ⟨vm₁, cA, comp, -, fA, fC, hO, -, X', step⟩ := Xs.multianewarray2F hexec hown hclink (va_AOA.use hover) harr (g := F0 m pc ls (.int k :: .int n :: rest)) rfl (by rw [hb]; exact hdg) rfl hn hk hb1 hb2 hb3 hdf hdd hcells hslots
  have ec : some cy = some comp := hcy.symm.trans fC
  cases ec
  generalize hF : Jvm.Free.Multi.fill (T.setVm vm₁) cA cy n.toNatClampNeg k.toNatClampNeg (defaultValue ty) n.toNatClampNeg = F at X' step
  have hTh : (T.setVm vm₁).heap = H := hT
  obtain ⟨f1, f2, -, -⟩ := Jvm.Free.Multi.fill_facts (T.setVm vm₁) cA cy n.toNatClampNeg k.toNatClampNeg (defaultValue ty) n.toNatClampNeg
  rw [hF, hTh] at f1 f2
  have hold : ∀ x : Nat, x < H.size → F.heap[x]? = H[x]? := fun x hx => by
    have := Jvm.Free.Multi.fill_old (T.setVm vm₁) cA cy n.toNatClampNeg k.toNatClampNeg (defaultValue ty) (a := x) (by rw [hTh]; exact hx) n.toNatClampNeg
    rw [hF, hTh] at this
    exact this
  have hrow : ∀ j : Nat, j < n.toNatClampNeg → F.heap[H.size + 1 + j]? = some (vp_cell cy z) := fun j hj => by
    have := Jvm.Free.Multi.fill_inner (T.setVm vm₁) cA cy n.toNatClampNeg k.toNatClampNeg (defaultValue ty) n.toNatClampNeg j hj
    rw [hF, hTh, hz] at this
    exact this
  have hout : Jvm.Free.Multi.outerC cA n.toNatClampNeg H.size n.toNatClampNeg = vp_cell cA (n.toNatClampNeg, .inr (.inr (.inr (.inr (fun i => if i < n.toNatClampNeg then some (H.size + 1 + i) else none))))) := by
    rw [vp_cell_q]
    exact vr_outer cA n.toNatClampNeg H.size n.toNatClampNeg
  rw [hout] at f2
  have hlt : ∀ a, a ∈ L → a < H.size := fun a ha => by
    obtain ⟨k9, hk9⟩ := va_pl_get (X := X) (f := f) ha
    exact (hP k9 _ hk9).lt
  have hnl : ∀ i : Nat, i < n.toNatClampNeg → H.size + 1 + i ∉ L := fun i _ h => by
    have := hlt _ h
    omega
  have hnm : ∀ a, a ∈ (List.range n.toNatClampNeg).map (fun i => H.size + 1 + i) → a ∉ L := fun a ha h => by
    obtain ⟨i, -, rfl⟩ := List.mem_map.mp ha
    have := hlt _ h
    omega
  have hP0 : va_P D cl (X ++ va_pl L f) F.heap := hP.kept (fun k9 x hx => hold x.1 ((hP k9 x hx).lt))
  have hP1 : va_P D cl ((X ++ va_pl L f) ++ [(H.size, .inl (cA, n.toNatClampNeg, .inr (.inr (.inr (.inr (fun i => if i < n.toNatClampNeg then some (H.size + 1 + i) else none))))))]) F.heap := hP0.app (fun k9 x hx => by
    have h0 : k9 < 1 := (List.getElem?_eq_some_iff.mp hx).1
    rw [show k9 = 0 by omega] at hx
    cases hx
    exact f2)
  have hP2 : va_P D cl (((X ++ va_pl L f) ++ [(H.size, .inl (cA, n.toNatClampNeg, .inr (.inr (.inr (.inr (fun i => if i < n.toNatClampNeg then some (H.size + 1 + i) else none))))))]) ++ ((List.range n.toNatClampNeg).map (fun i => H.size + 1 + i)).map (fun a => (a, .inl (cy, z)))) F.heap := hP1.app (fun k9 x hx => by
    obtain ⟨a, ha, rfl⟩ := List.mem_map.mp (List.mem_of_getElem? hx)
    obtain ⟨i, hi, rfl⟩ := List.mem_map.mp ha
    exact hrow i (List.mem_range.mp hi))
  have hD2 : va_D A (((X ++ va_pl L f) ++ [(H.size, .inl (cA, n.toNatClampNeg, .inr (.inr (.inr (.inr (fun i => if i < n.toNatClampNeg then some (H.size + 1 + i) else none))))))]) ++ ((List.range n.toNatClampNeg).map (fun i => H.size + 1 + i)).map (fun a => (a, .inl (cy, z)))) := by
    have hD1 := hD.push (e := .inl (cA, n.toNatClampNeg, .inr (.inr (.inr (.inr (fun i => if i < n.toNatClampNeg then some (H.size + 1 + i) else none)))))) hP rfl (hA _ hS.1)
    generalize hW1 : (X ++ va_pl L f) ++ [(H.size, .inl (cA, n.toNatClampNeg, .inr (.inr (.inr (.inr (fun i => if i < n.toNatClampNeg then some (H.size + 1 + i) else none))))))] = W1 at hD1 hP1 ⊢
    have hle : ∀ (k9 : Nat) (x : Nat × va_E), W1[k9]? = some x → x.1 ≤ H.size := fun k9 x hx => by
      rw [← hW1] at hx
      by_cases hl : k9 < (X ++ va_pl L f).length
      · rw [List.getElem?_append_left hl] at hx
        exact Nat.le_of_lt ((hP k9 x hx).lt)
      · rw [List.getElem?_append_right (by omega)] at hx
        have h0 : k9 - (X ++ va_pl L f).length < 1 := (List.getElem?_eq_some_iff.mp hx).1
        rw [show k9 - (X ++ va_pl L f).length = 0 by omega] at hx
        cases hx
        exact Nat.le_refl _
    have hr : ∀ (k9 : Nat) (x : Nat × va_E), (((List.range n.toNatClampNeg).map (fun i => H.size + 1 + i)).map (fun a => ((a, .inl (cy, z)) : Nat × va_E)))[k9]? = some x → x.1 = H.size + 1 + k9 := fun k9 x hx => by
      rw [List.getElem?_map, List.getElem?_map] at hx
      by_cases h9 : k9 < n.toNatClampNeg
      · rw [List.getElem?_range h9] at hx
        cases hx
        rfl
      · have hn0 : (List.range n.toNatClampNeg)[k9]? = none := List.getElem?_eq_none (by rw [List.length_range]; omega)
        rw [hn0] at hx
        cases hx
    refine ⟨fun i j x y hi hj hxy => ?_, fun k9 x hx => ?_⟩
    · by_cases h1 : i < W1.length <;> by_cases h2 : j < W1.length
      · rw [List.getElem?_append_left h1] at hi
        rw [List.getElem?_append_left h2] at hj
        exact hD1.1 i j x y hi hj hxy
      · rw [List.getElem?_append_left h1] at hi
        rw [List.getElem?_append_right (by omega)] at hj
        have := hle _ _ hi
        have := hr _ _ hj
        omega
      · rw [List.getElem?_append_right (by omega)] at hi
        rw [List.getElem?_append_left h2] at hj
        have := hle _ _ hj
        have := hr _ _ hi
        omega
      · rw [List.getElem?_append_right (by omega)] at hi hj
        have := hr _ _ hi
        have := hr _ _ hj
        omega
    · by_cases h1 : k9 < W1.length
      · rw [List.getElem?_append_left h1] at hx
        exact hD1.2 k9 x hx
      · rw [List.getElem?_append_right (by omega)] at hx
        have := hr _ _ hx
        exact hA _ (by have := hS.1; omega)
  have hAr : ArrOfT s cA (.array ty) := fun N9 z9 => by
    obtain ⟨-, k9, hk9, cm9, hkk9⟩ := (hO 0 0 0).1
    exact ⟨(fun q hq => by cases hq), k9, hk9, cm9, hkk9⟩
  have hK2 : va_K D cl (tys ++ [(cA, .array ty)]) s := ⟨hK.1, fun k9 x hx => by
    by_cases hl : k9 < tys.length
    · rw [List.getElem?_append_left hl] at hx
      exact hK.2 k9 x hx
    · rw [List.getElem?_append_right (by omega)] at hx
      have h0 : k9 - tys.length < 1 := (List.getElem?_eq_some_iff.mp hx).1
      rw [show k9 - tys.length = 0 by omega] at hx
      cases hx
      exact ⟨hAr, fA⟩⟩
  obtain ⟨t, a1, b1⟩ := kk H.size (fun i => H.size + 1 + i) cA F.heap (fun i j _ _ h => by have h9 : H.size + 1 + i = H.size + 1 + j := h; omega) hnl hK2 (by rw [← vr_rows hnm]; exact vr_lay hP2) (by rw [← vr_rows hnm]; exact vr_layD hD2) ⟨by rw [f1]; have := hS.1; omega, fun x h1 h2 => (hold x (Nat.lt_of_lt_of_le h1 hS.1)).trans (hS.2.1 x h1 h2), hS.2.2⟩ F rfl X'
  refine ⟨t, step t ?_, b1⟩
  have e : T.heap.size = H.size := by rw [hT]
  rw [e]
  exact a1
end VGM
/-! ===== END ===== -/

/-! ===== BEGIN printed: names, fields, word lists, decode rows ===== -/
def RX0 : String := "BuyersArm$Exchanges"
def TX0 : u_T := fun k => match k with
  | 0 => ("BuyersArm$Exchanges", "from", "[I", true)
  | 1 => ("BuyersArm$Exchanges", "to", "[I", true)
  | 2 => ("BuyersArm$Exchanges", "given", "[I", true)
  | 3 => ("BuyersArm$Exchanges", "taken", "[I", true)
  | 4 => ("BuyersArm$Exchanges", "armOfGiven", "[I", true)
  | 5 => ("BuyersArm$Exchanges", "made", "I", false)
  | 6 => ("BuyersArm$Exchanges", "best", "[I", true)
  | 7 => ("BuyersArm$Exchanges", "size", "I", false)
  | 8 => ("BuyersArm$Exchanges", "behind", "J", false)
  | _ => ("BuyersArm$Exchanges", "ahead", "J", false)
def tyX0 : Nat → FieldType := fun k => match k with
  | 0 => .array .int
  | 1 => .array .int
  | 2 => .array .int
  | 3 => .array .int
  | 4 => .array .int
  | 5 => .int
  | 6 => .array .int
  | 7 => .int
  | 8 => .long
  | _ => .long
abbrev wsX00 : List Cond := u_ws RX0 TX0 10
theorem nmX0 : ∀ a, a < 10 → ∀ b, b < 10 → a ≠ b → (TX0 a).2.1 ≠ (TX0 b).2.1 := by decide +kernel
theorem tyX0_ok : ∀ k, k < 10 → parseFieldDescriptor (TX0 k).2.2.1 = some (tyX0 k) := by decide +kernel
abbrev cX0_init : ByteArray := prog_2_method_1_code
def yX0_init : MethodName := ⟨RX0, "<init>", "()V"⟩
abbrev cX0_add : ByteArray := prog_2_method_2_code
def yX0_add : MethodName := ⟨RX0, "add", "(IIIII)V"⟩
abbrev cX0_seekBest : ByteArray := prog_2_method_3_code
def yX0_seekBest : MethodName := ⟨RX0, "seekBest", "(I)V"⟩
abbrev cX0_seekThird : ByteArray := prog_2_method_4_code
def yX0_seekThird : MethodName := ⟨RX0, "seekThird", "(III)V"⟩
abbrev cX0_follows : ByteArray := prog_2_method_5_code
def yX0_follows : MethodName := ⟨RX0, "follows", "(II)Z"⟩
abbrev cX0_offer : ByteArray := prog_2_method_6_code
def yX0_offer : MethodName := ⟨RX0, "offer", "(IIIII)V"⟩
abbrev cX0_got : ByteArray := prog_2_method_7_code
def yX0_got : MethodName := ⟨RX0, "got", "(II)J"⟩
abbrev cX0_paid : ByteArray := prog_2_method_8_code
def yX0_paid : MethodName := ⟨RX0, "paid", "(I)J"⟩
def RX1 : String := "BuyersArm$Hidden"
def TX1 : u_T := fun k => match k with
  | 0 => ("BuyersArm$Hidden", "misfits", "[I", true)
  | 1 => ("BuyersArm$Hidden", "lengths", "[I", true)
  | 2 => ("BuyersArm$Hidden", "times", "I", false)
  | _ => ("BuyersArm$Hidden", "rows", "I", false)
def tyX1 : Nat → FieldType := fun k => match k with
  | 0 => .array .int
  | 1 => .array .int
  | 2 => .int
  | _ => .int
abbrev wsX10 : List Cond := u_ws RX1 TX1 4
theorem nmX1 : ∀ a, a < 4 → ∀ b, b < 4 → a ≠ b → (TX1 a).2.1 ≠ (TX1 b).2.1 := by decide +kernel
theorem tyX1_ok : ∀ k, k < 4 → parseFieldDescriptor (TX1 k).2.2.1 = some (tyX1 k) := by decide +kernel
abbrev cX1_init : ByteArray := prog_3_method_1_code
def yX1_init : MethodName := ⟨RX1, "<init>", "()V"⟩
abbrev cX1_forget : ByteArray := prog_3_method_2_code
def yX1_forget : MethodName := ⟨RX1, "forget", "()V"⟩
abbrev cX1_hold : ByteArray := prog_3_method_3_code
def yX1_hold : MethodName := ⟨RX1, "hold", "(IIIII)V"⟩
abbrev cX1_reckon : ByteArray := prog_3_method_4_code
def yX1_reckon : MethodName := ⟨RX1, "reckon", "()V"⟩
abbrev cX1_leastOf : ByteArray := prog_3_method_5_code
def yX1_leastOf : MethodName := ⟨RX1, "leastOf", "(I)I"⟩
abbrev cX1_greatestOf : ByteArray := prog_3_method_6_code
def yX1_greatestOf : MethodName := ⟨RX1, "greatestOf", "(I)I"⟩
def RX2 : String := "BuyersArm$Piece"
def TX2 : u_T := fun k => match k with
  | 0 => ("BuyersArm$Piece", "ellsTo", "[I", true)
  | 1 => ("BuyersArm$Piece", "leftOver", "I", false)
  | _ => ("BuyersArm$Piece", "fewest", "I", false)
def tyX2 : Nat → FieldType := fun k => match k with
  | 0 => .array .int
  | 1 => .int
  | _ => .int
abbrev wsX20 : List Cond := u_ws RX2 TX2 3
theorem nmX2 : ∀ a, a < 3 → ∀ b, b < 3 → a ≠ b → (TX2 a).2.1 ≠ (TX2 b).2.1 := by decide +kernel
theorem tyX2_ok : ∀ k, k < 3 → parseFieldDescriptor (TX2 k).2.2.1 = some (tyX2 k) := by decide +kernel
abbrev cX2_init : ByteArray := prog_4_method_1_code
def yX2_init : MethodName := ⟨RX2, "<init>", "()V"⟩
abbrev cX2_reckon : ByteArray := prog_4_method_2_code
def yX2_reckon : MethodName := ⟨RX2, "reckon", "(II[I)V"⟩
abbrev cX2_fewestTo : ByteArray := prog_4_method_3_code
def yX2_fewestTo : MethodName := ⟨RX2, "fewestTo", "(II[I)I"⟩
def RX3 : String := "BuyersArm$Reader"
def TX3 : u_T := fun k => match k with
  | 0 => ("BuyersArm$Reader", "part", "I", false)
  | 1 => ("BuyersArm$Reader", "digits", "I", false)
  | 2 => ("BuyersArm$Reader", "number", "I", false)
  | _ => ("BuyersArm$Reader", "barredPerson", "I", false)
def tyX3 : Nat → FieldType := fun k => match k with
  | 0 => .int
  | 1 => .int
  | 2 => .int
  | _ => .int
abbrev wsX30 : List Cond := u_ws RX3 TX3 4
theorem nmX3 : ∀ a, a < 4 → ∀ b, b < 4 → a ≠ b → (TX3 a).2.1 ≠ (TX3 b).2.1 := by decide +kernel
theorem tyX3_ok : ∀ k, k < 4 → parseFieldDescriptor (TX3 k).2.2.1 = some (tyX3 k) := by decide +kernel
abbrev cX3_init : ByteArray := prog_5_method_1_code
def yX3_init : MethodName := ⟨RX3, "<init>", "()V"⟩
abbrev cX3_read : ByteArray := prog_5_method_2_code
def yX3_read : MethodName := ⟨RX3, "read", "(LBuyersArm$Signs;LBuyersArm$Told;)I"⟩
abbrev cX3_takes : ByteArray := prog_5_method_3_code
def yX3_takes : MethodName := ⟨RX3, "takes", "(ILBuyersArm$Told;)Z"⟩
abbrev cX3_opens : ByteArray := prog_5_method_4_code
def yX3_opens : MethodName := ⟨RX3, "opens", "(ILBuyersArm$Told;)Z"⟩
abbrev cX3_takesOfPerson : ByteArray := prog_5_method_5_code
def yX3_takesOfPerson : MethodName := ⟨RX3, "takesOfPerson", "(ILBuyersArm$Told;)Z"⟩
abbrev cX3_takesOfCounter : ByteArray := prog_5_method_6_code
def yX3_takesOfCounter : MethodName := ⟨RX3, "takesOfCounter", "(ILBuyersArm$Told;)Z"⟩
abbrev cX3_takesOfBar : ByteArray := prog_5_method_7_code
def yX3_takesOfBar : MethodName := ⟨RX3, "takesOfBar", "(ILBuyersArm$Told;)Z"⟩
def RX4 : String := "BuyersArm$Signs"
def TX4 : u_T := fun k => match k with
  | 0 => ("BuyersArm$Signs", "row", "[I", true)
  | _ => ("BuyersArm$Signs", "length", "I", false)
def tyX4 : Nat → FieldType := fun k => match k with
  | 0 => .array .int
  | _ => .int
abbrev wsX40 : List Cond := u_ws RX4 TX4 2
theorem nmX4 : ∀ a, a < 2 → ∀ b, b < 2 → a ≠ b → (TX4 a).2.1 ≠ (TX4 b).2.1 := by decide +kernel
theorem tyX4_ok : ∀ k, k < 2 → parseFieldDescriptor (TX4 k).2.2.1 = some (tyX4 k) := by decide +kernel
abbrev cX4_init : ByteArray := prog_6_method_1_code
def yX4_init : MethodName := ⟨RX4, "<init>", "()V"⟩
abbrev cX4_append : ByteArray := prog_6_method_2_code
def yX4_append : MethodName := ⟨RX4, "append", "(IJ)V"⟩
def RX5 : String := "BuyersArm$Stand"
def TX5 : u_T := fun k => match k with
  | 0 => ("BuyersArm$Stand", "arms", "[I", true)
  | 1 => ("BuyersArm$Stand", "stocks", "[I", true)
  | 2 => ("BuyersArm$Stand", "buyers", "[I", true)
  | 3 => ("BuyersArm$Stand", "sellers", "[I", true)
  | 4 => ("BuyersArm$Stand", "ells", "[I", true)
  | 5 => ("BuyersArm$Stand", "parts", "[I", true)
  | 6 => ("BuyersArm$Stand", "sales", "I", false)
  | 7 => ("BuyersArm$Stand", "commonEll", "I", false)
  | _ => ("BuyersArm$Stand", "isKept", "Z", false)
def tyX5 : Nat → FieldType := fun k => match k with
  | 0 => .array .int
  | 1 => .array .int
  | 2 => .array .int
  | 3 => .array .int
  | 4 => .array .int
  | 5 => .array .int
  | 6 => .int
  | 7 => .int
  | _ => .boolean
abbrev wsX50 : List Cond := u_ws RX5 TX5 9
theorem nmX5 : ∀ a, a < 9 → ∀ b, b < 9 → a ≠ b → (TX5 a).2.1 ≠ (TX5 b).2.1 := by decide +kernel
theorem tyX5_ok : ∀ k, k < 9 → parseFieldDescriptor (TX5 k).2.2.1 = some (tyX5 k) := by decide +kernel
abbrev cX5_init : ByteArray := prog_7_method_1_code
def yX5_init : MethodName := ⟨RX5, "<init>", "()V"⟩
abbrev cX5_begin : ByteArray := prog_7_method_2_code
def yX5_begin : MethodName := ⟨RX5, "begin", "(LBuyersArm$Told;)V"⟩
abbrev cX5_takeFrom : ByteArray := prog_7_method_3_code
def yX5_takeFrom : MethodName := ⟨RX5, "takeFrom", "(LBuyersArm$Stand;)V"⟩
abbrev cX5_sell : ByteArray := prog_7_method_4_code
def yX5_sell : MethodName := ⟨RX5, "sell", "(III)V"⟩
abbrev cX5_takeBack : ByteArray := prog_7_method_5_code
def yX5_takeBack : MethodName := ⟨RX5, "takeBack", "()V"⟩
abbrev cX5_ellsSoldAt : ByteArray := prog_7_method_6_code
def yX5_ellsSoldAt : MethodName := ⟨RX5, "ellsSoldAt", "(I)I"⟩
abbrev cX5_lostAt : ByteArray := prog_7_method_7_code
def yX5_lostAt : MethodName := ⟨RX5, "lostAt", "(I)I"⟩
def RX6 : String := "BuyersArm$Told"
def TX6 : u_T := fun k => match k with
  | 0 => ("BuyersArm$Told", "arms", "[I", true)
  | 1 => ("BuyersArm$Told", "fees", "[I", true)
  | 2 => ("BuyersArm$Told", "comers", "[I", true)
  | 3 => ("BuyersArm$Told", "barsOf", "[I", true)
  | 4 => ("BuyersArm$Told", "prices", "[I", true)
  | 5 => ("BuyersArm$Told", "stocks", "[I", true)
  | 6 => ("BuyersArm$Told", "people", "I", false)
  | 7 => ("BuyersArm$Told", "counters", "I", false)
  | 8 => ("BuyersArm$Told", "barredPairs", "I", false)
  | _ => ("BuyersArm$Told", "keepers", "I", false)
def tyX6 : Nat → FieldType := fun k => match k with
  | 0 => .array .int
  | 1 => .array .int
  | 2 => .array .int
  | 3 => .array .int
  | 4 => .array .int
  | 5 => .array .int
  | 6 => .int
  | 7 => .int
  | 8 => .int
  | _ => .int
abbrev wsX60 : List Cond := u_ws RX6 TX6 10
theorem nmX6 : ∀ a, a < 10 → ∀ b, b < 10 → a ≠ b → (TX6 a).2.1 ≠ (TX6 b).2.1 := by decide +kernel
theorem tyX6_ok : ∀ k, k < 10 → parseFieldDescriptor (TX6 k).2.2.1 = some (tyX6 k) := by decide +kernel
abbrev cX6_init : ByteArray := prog_8_method_1_code
def yX6_init : MethodName := ⟨RX6, "<init>", "()V"⟩
abbrev cX6_clear : ByteArray := prog_8_method_2_code
def yX6_clear : MethodName := ⟨RX6, "clear", "()V"⟩
abbrev cX6_hasPerson : ByteArray := prog_8_method_3_code
def yX6_hasPerson : MethodName := ⟨RX6, "hasPerson", "(I)Z"⟩
abbrev cX6_hasCounter : ByteArray := prog_8_method_4_code
def yX6_hasCounter : MethodName := ⟨RX6, "hasCounter", "(I)Z"⟩
abbrev cX6_bars : ByteArray := prog_8_method_5_code
def yX6_bars : MethodName := ⟨RX6, "bars", "(II)Z"⟩
abbrev cX6_isKeeper : ByteArray := prog_8_method_6_code
def yX6_isKeeper : MethodName := ⟨RX6, "isKeeper", "(I)Z"⟩
def RX7 : String := "BuyersArm$Want"
def TX7 : u_T := fun k => match k with
  | 0 => ("BuyersArm$Want", "lightest", "[[I", true)
  | 1 => ("BuyersArm$Want", "withOne", "[I", true)
  | 2 => ("BuyersArm$Want", "ells", "[I", true)
  | 3 => ("BuyersArm$Want", "highest", "I", false)
  | _ => ("BuyersArm$Want", "weight", "I", false)
def tyX7 : Nat → FieldType := fun k => match k with
  | 0 => .array (.array .int)
  | 1 => .array .int
  | 2 => .array .int
  | 3 => .int
  | _ => .int
abbrev wsX70 : List Cond := u_ws RX7 TX7 5
theorem nmX7 : ∀ a, a < 5 → ∀ b, b < 5 → a ≠ b → (TX7 a).2.1 ≠ (TX7 b).2.1 := by decide +kernel
theorem tyX7_ok : ∀ k, k < 5 → parseFieldDescriptor (TX7 k).2.2.1 = some (tyX7 k) := by decide +kernel
abbrev cX7_init : ByteArray := prog_9_method_1_code
def yX7_init : MethodName := ⟨RX7, "<init>", "()V"⟩
abbrev cX7_reckon : ByteArray := prog_9_method_2_code
def yX7_reckon : MethodName := ⟨RX7, "reckon", "(LBuyersArm$Told;LBuyersArm$Stand;II)Z"⟩
abbrev cX7_coins : ByteArray := prog_9_method_3_code
def yX7_coins : MethodName := ⟨RX7, "coins", "()I"⟩
abbrev cX7_shareOut : ByteArray := prog_9_method_4_code
def yX7_shareOut : MethodName := ⟨RX7, "shareOut", "(LBuyersArm$Told;LBuyersArm$Stand;II)V"⟩
abbrev cX7_hire : ByteArray := prog_9_method_5_code
def yX7_hire : MethodName := ⟨RX7, "hire", "(LBuyersArm$Told;I)I"⟩
abbrev cX7_fill : ByteArray := prog_9_method_6_code
def yX7_fill : MethodName := ⟨RX7, "fill", "(IIII)V"⟩
abbrev cX7_fewestOf : ByteArray := prog_9_method_7_code
def yX7_fewestOf : MethodName := ⟨RX7, "fewestOf", "([IIIIII)I"⟩
def RX8 : String := "BuyersArm"
def TX8 : u_T := fun k => match k with
  | 0 => ("BuyersArm", "signs", "LBuyersArm$Signs;", true)
  | 1 => ("BuyersArm", "reader", "LBuyersArm$Reader;", true)
  | 2 => ("BuyersArm", "told", "LBuyersArm$Told;", false)
  | 3 => ("BuyersArm", "draft", "LBuyersArm$Told;", false)
  | 4 => ("BuyersArm", "stand", "LBuyersArm$Stand;", true)
  | 5 => ("BuyersArm", "slots", "[LBuyersArm$Stand;", true)
  | 6 => ("BuyersArm", "want", "LBuyersArm$Want;", true)
  | 7 => ("BuyersArm", "exchanges", "LBuyersArm$Exchanges;", true)
  | 8 => ("BuyersArm", "piece", "LBuyersArm$Piece;", true)
  | _ => ("BuyersArm", "hidden", "LBuyersArm$Hidden;", true)
def tyX8 : Nat → FieldType := fun k => match k with
  | 0 => .object "BuyersArm$Signs"
  | 1 => .object "BuyersArm$Reader"
  | 2 => .object "BuyersArm$Told"
  | 3 => .object "BuyersArm$Told"
  | 4 => .object "BuyersArm$Stand"
  | 5 => .array (.object "BuyersArm$Stand")
  | 6 => .object "BuyersArm$Want"
  | 7 => .object "BuyersArm$Exchanges"
  | 8 => .object "BuyersArm$Piece"
  | _ => .object "BuyersArm$Hidden"
abbrev wsX80 : List Cond := u_ws RX8 TX8 10
theorem nmX8 : ∀ a, a < 10 → ∀ b, b < 10 → a ≠ b → (TX8 a).2.1 ≠ (TX8 b).2.1 := by decide +kernel
theorem tyX8_ok : ∀ k, k < 10 → parseFieldDescriptor (TX8 k).2.2.1 = some (tyX8 k) := by decide +kernel
abbrev cX8_init : ByteArray := prog_1_method_1_code
def yX8_init : MethodName := ⟨RX8, "<init>", "()V"⟩
abbrev cX8_write : ByteArray := prog_1_method_2_code
def yX8_write : MethodName := ⟨RX8, "write", "(IJ)I"⟩
abbrev cX8_wipe : ByteArray := prog_1_method_3_code
def yX8_wipe : MethodName := ⟨RX8, "wipe", "()I"⟩
abbrev cX8_fault : ByteArray := prog_1_method_4_code
def yX8_fault : MethodName := ⟨RX8, "fault", "()I"⟩
abbrev cX8_market : ByteArray := prog_1_method_5_code
def yX8_market : MethodName := ⟨RX8, "market", "()I"⟩
abbrev cX8_person : ByteArray := prog_1_method_6_code
def yX8_person : MethodName := ⟨RX8, "person", "(II)I"⟩
abbrev cX8_counter : ByteArray := prog_1_method_7_code
def yX8_counter : MethodName := ⟨RX8, "counter", "(II)I"⟩
abbrev cX8_barred : ByteArray := prog_1_method_8_code
def yX8_barred : MethodName := ⟨RX8, "barred", "(II)I"⟩
abbrev cX8_plaster : ByteArray := prog_1_method_9_code
def yX8_plaster : MethodName := ⟨RX8, "plaster", "(II)I"⟩
abbrev cX8_common : ByteArray := prog_1_method_10_code
def yX8_common : MethodName := ⟨RX8, "common", "(I)I"⟩
abbrev cX8_buy : ByteArray := prog_1_method_11_code
def yX8_buy : MethodName := ⟨RX8, "buy", "(III)I"⟩
abbrev cX8_undo : ByteArray := prog_1_method_12_code
def yX8_undo : MethodName := ⟨RX8, "undo", "()I"⟩
abbrev cX8_sale : ByteArray := prog_1_method_13_code
def yX8_sale : MethodName := ⟨RX8, "sale", "(II)I"⟩
abbrev cX8_truly : ByteArray := prog_1_method_14_code
def yX8_truly : MethodName := ⟨RX8, "truly", "(IIZ)I"⟩
abbrev cX8_cheapest : ByteArray := prog_1_method_15_code
def yX8_cheapest : MethodName := ⟨RX8, "cheapest", "(II)I"⟩
abbrev cX8_cheapestBy : ByteArray := prog_1_method_16_code
def yX8_cheapestBy : MethodName := ⟨RX8, "cheapestBy", "(III)I"⟩
abbrev cX8_exchange : ByteArray := prog_1_method_17_code
def yX8_exchange : MethodName := ⟨RX8, "exchange", "(IIIII)I"⟩
abbrev cX8_unchange : ByteArray := prog_1_method_18_code
def yX8_unchange : MethodName := ⟨RX8, "unchange", "()I"⟩
abbrev cX8_ring : ByteArray := prog_1_method_19_code
def yX8_ring : MethodName := ⟨RX8, "ring", "(IZ)J"⟩
abbrev cX8_ringAt : ByteArray := prog_1_method_20_code
def yX8_ringAt : MethodName := ⟨RX8, "ringAt", "(II)I"⟩
abbrev cX8_come : ByteArray := prog_1_method_21_code
def yX8_come : MethodName := ⟨RX8, "come", "(II)I"⟩
abbrev cX8_earned : ByteArray := prog_1_method_22_code
def yX8_earned : MethodName := ⟨RX8, "earned", "(III)I"⟩
abbrev cX8_ask : ByteArray := prog_1_method_23_code
def yX8_ask : MethodName := ⟨RX8, "ask", "(II)I"⟩
abbrev cX8_keeper : ByteArray := prog_1_method_24_code
def yX8_keeper : MethodName := ⟨RX8, "keeper", "(IZ)I"⟩
abbrev cX8_losers : ByteArray := prog_1_method_25_code
def yX8_losers : MethodName := ⟨RX8, "losers", "(I)I"⟩
abbrev cX8_fairest : ByteArray := prog_1_method_26_code
def yX8_fairest : MethodName := ⟨RX8, "fairest", "()I"⟩
abbrev cX8_cut : ByteArray := prog_1_method_27_code
def yX8_cut : MethodName := ⟨RX8, "cut", "(IIZ)I"⟩
abbrev cX8_when : ByteArray := prog_1_method_28_code
def yX8_when : MethodName := ⟨RX8, "when", "(IIII)I"⟩
abbrev cX8_held : ByteArray := prog_1_method_29_code
def yX8_held : MethodName := ⟨RX8, "held", "(IIIII)I"⟩
abbrev cX8_unheld : ByteArray := prog_1_method_30_code
def yX8_unheld : MethodName := ⟨RX8, "unheld", "()I"⟩
abbrev cX8_mayBe : ByteArray := prog_1_method_31_code
def yX8_mayBe : MethodName := ⟨RX8, "mayBe", "()I"⟩
abbrev cX8_arm : ByteArray := prog_1_method_32_code
def yX8_arm : MethodName := ⟨RX8, "arm", "(IZ)I"⟩
abbrev cX8_keep : ByteArray := prog_1_method_33_code
def yX8_keep : MethodName := ⟨RX8, "keep", "(I)I"⟩
abbrev cX8_again : ByteArray := prog_1_method_34_code
def yX8_again : MethodName := ⟨RX8, "again", "(I)I"⟩
abbrev cX8_count : ByteArray := prog_1_method_35_code
def yX8_count : MethodName := ⟨RX8, "count", "(I)I"⟩
abbrev cX8_within : ByteArray := prog_1_method_36_code
def yX8_within : MethodName := ⟨RX8, "within", "(III)Z"⟩
abbrev cX8_mayValue : ByteArray := prog_1_method_37_code
def yX8_mayValue : MethodName := ⟨RX8, "mayValue", "(II)Z"⟩
abbrev cX8_signOf : ByteArray := prog_1_method_38_code
def yX8_signOf : MethodName := ⟨RX8, "signOf", "(I)I"⟩
abbrev cX8_inLeastTerms : ByteArray := prog_1_method_39_code
def yX8_inLeastTerms : MethodName := ⟨RX8, "inLeastTerms", "(JJZ)J"⟩
abbrev cX8_spentBy : ByteArray := prog_1_method_40_code
def yX8_spentBy : MethodName := ⟨RX8, "spentBy", "(I)I"⟩
abbrev cX8_gotBy : ByteArray := prog_1_method_41_code
def yX8_gotBy : MethodName := ⟨RX8, "gotBy", "(I)I"⟩
abbrev cX8_broughtBy : ByteArray := prog_1_method_42_code
def yX8_broughtBy : MethodName := ⟨RX8, "broughtBy", "(III)I"⟩
abbrev cX8_losersBy : ByteArray := prog_1_method_43_code
def yX8_losersBy : MethodName := ⟨RX8, "losersBy", "(I)I"⟩
def RX9 : String := "BuyersArmModel"
def TX9 : u_T := fun k => match k with
  | 0 => ("BuyersArmModel", "thrown", "I", false)
  | 1 => ("BuyersArmModel", "text", "[I", true)
  | 2 => ("BuyersArmModel", "textSize", "I", false)
  | 3 => ("BuyersArmModel", "place", "I", false)
  | 4 => ("BuyersArmModel", "people", "I", false)
  | 5 => ("BuyersArmModel", "counters", "I", false)
  | 6 => ("BuyersArmModel", "arm", "[I", true)
  | 7 => ("BuyersArmModel", "fee", "[I", true)
  | 8 => ("BuyersArmModel", "price", "[I", true)
  | 9 => ("BuyersArmModel", "stock", "[I", true)
  | 10 => ("BuyersArmModel", "barred", "[Z", true)
  | 11 => ("BuyersArmModel", "comers", "[I", true)
  | 12 => ("BuyersArmModel", "keeps", "[Z", true)
  | 13 => ("BuyersArmModel", "common", "I", false)
  | 14 => ("BuyersArmModel", "readPeople", "I", false)
  | 15 => ("BuyersArmModel", "readCounters", "I", false)
  | 16 => ("BuyersArmModel", "readArm", "[I", true)
  | 17 => ("BuyersArmModel", "readFee", "[I", true)
  | 18 => ("BuyersArmModel", "readPrice", "[I", true)
  | 19 => ("BuyersArmModel", "readStock", "[I", true)
  | 20 => ("BuyersArmModel", "readBarred", "[Z", true)
  | 21 => ("BuyersArmModel", "sales", "I", false)
  | 22 => ("BuyersArmModel", "whoBuys", "[I", true)
  | 23 => ("BuyersArmModel", "where", "[I", true)
  | 24 => ("BuyersArmModel", "ells", "[I", true)
  | 25 => ("BuyersArmModel", "parts", "[I", true)
  | 26 => ("BuyersArmModel", "changes", "I", false)
  | 27 => ("BuyersArmModel", "from", "[I", true)
  | 28 => ("BuyersArmModel", "to", "[I", true)
  | 29 => ("BuyersArmModel", "gives", "[I", true)
  | 30 => ("BuyersArmModel", "gets", "[I", true)
  | 31 => ("BuyersArmModel", "armOf", "[I", true)
  | 32 => ("BuyersArmModel", "heldMany", "I", false)
  | 33 => ("BuyersArmModel", "heldOne", "[I", true)
  | 34 => ("BuyersArmModel", "heldE", "[I", true)
  | 35 => ("BuyersArmModel", "heldOther", "[I", true)
  | 36 => ("BuyersArmModel", "heldF", "[I", true)
  | 37 => ("BuyersArmModel", "heldSign", "[I", true)
  | 38 => ("BuyersArmModel", "kept", "[I", true)
  | 39 => ("BuyersArmModel", "isKept", "[Z", true)
  | 40 => ("BuyersArmModel", "few", "[I", true)
  | 41 => ("BuyersArmModel", "best", "[I", true)
  | 42 => ("BuyersArmModel", "tried", "[I", true)
  | 43 => ("BuyersArmModel", "ring", "[I", true)
  | 44 => ("BuyersArmModel", "ringMany", "I", false)
  | 45 => ("BuyersArmModel", "ringUp", "J", false)
  | 46 => ("BuyersArmModel", "ringDown", "J", false)
  | 47 => ("BuyersArmModel", "cuts", "[I", true)
  | 48 => ("BuyersArmModel", "low", "I", false)
  | _ => ("BuyersArmModel", "high", "I", false)
def tyX9 : Nat → FieldType := fun k => match k with
  | 0 => .int
  | 1 => .array .int
  | 2 => .int
  | 3 => .int
  | 4 => .int
  | 5 => .int
  | 6 => .array .int
  | 7 => .array .int
  | 8 => .array .int
  | 9 => .array .int
  | 10 => .array .boolean
  | 11 => .array .int
  | 12 => .array .boolean
  | 13 => .int
  | 14 => .int
  | 15 => .int
  | 16 => .array .int
  | 17 => .array .int
  | 18 => .array .int
  | 19 => .array .int
  | 20 => .array .boolean
  | 21 => .int
  | 22 => .array .int
  | 23 => .array .int
  | 24 => .array .int
  | 25 => .array .int
  | 26 => .int
  | 27 => .array .int
  | 28 => .array .int
  | 29 => .array .int
  | 30 => .array .int
  | 31 => .array .int
  | 32 => .int
  | 33 => .array .int
  | 34 => .array .int
  | 35 => .array .int
  | 36 => .array .int
  | 37 => .array .int
  | 38 => .array .int
  | 39 => .array .boolean
  | 40 => .array .int
  | 41 => .array .int
  | 42 => .array .int
  | 43 => .array .int
  | 44 => .int
  | 45 => .long
  | 46 => .long
  | 47 => .array .int
  | 48 => .int
  | _ => .int
abbrev wsX90 : List Cond := u_ws RX9 TX9 50
theorem nmX9 : ∀ a, a < 50 → ∀ b, b < 50 → a ≠ b → (TX9 a).2.1 ≠ (TX9 b).2.1 := by decide +kernel
theorem tyX9_ok : ∀ k, k < 50 → parseFieldDescriptor (TX9 k).2.2.1 = some (tyX9 k) := by decide +kernel
abbrev cX9_init : ByteArray := prog_11_method_1_code
def yX9_init : MethodName := ⟨RX9, "<init>", "()V"⟩
abbrev cX9_in : ByteArray := prog_11_method_3_code
def yX9_in : MethodName := ⟨RX9, "in", "(JJJ)Z"⟩
abbrev cX9_has : ByteArray := prog_11_method_4_code
def yX9_has : MethodName := ⟨RX9, "has", "(II)Z"⟩
abbrev cX9_noOne : ByteArray := prog_11_method_5_code
def yX9_noOne : MethodName := ⟨RX9, "noOne", "(I)Z"⟩
abbrev cX9_noCounter : ByteArray := prog_11_method_6_code
def yX9_noCounter : MethodName := ⟨RX9, "noCounter", "(I)Z"⟩
abbrev cX9_write : ByteArray := prog_11_method_7_code
def yX9_write : MethodName := ⟨RX9, "write", "(IJ)I"⟩
abbrev cX9_wipe : ByteArray := prog_11_method_8_code
def yX9_wipe : MethodName := ⟨RX9, "wipe", "()I"⟩
abbrev cX9_figure : ByteArray := prog_11_method_9_code
def yX9_figure : MethodName := ⟨RX9, "figure", "(I)I"⟩
abbrev cX9_two : ByteArray := prog_11_method_10_code
def yX9_two : MethodName := ⟨RX9, "two", "(I)I"⟩
abbrev cX9_readPerson : ByteArray := prog_11_method_11_code
def yX9_readPerson : MethodName := ⟨RX9, "readPerson", "()Z"⟩
abbrev cX9_readCounter : ByteArray := prog_11_method_12_code
def yX9_readCounter : MethodName := ⟨RX9, "readCounter", "()Z"⟩
abbrev cX9_hasLeft : ByteArray := prog_11_method_13_code
def yX9_hasLeft : MethodName := ⟨RX9, "hasLeft", "(I)Z"⟩
abbrev cX9_hasAny : ByteArray := prog_11_method_14_code
def yX9_hasAny : MethodName := ⟨RX9, "hasAny", "()Z"⟩
abbrev cX9_readBar : ByteArray := prog_11_method_15_code
def yX9_readBar : MethodName := ⟨RX9, "readBar", "()Z"⟩
abbrev cX9_readPart : ByteArray := prog_11_method_16_code
def yX9_readPart : MethodName := ⟨RX9, "readPart", "()Z"⟩
abbrev cX9_readMarket : ByteArray := prog_11_method_17_code
def yX9_readMarket : MethodName := ⟨RX9, "readMarket", "()I"⟩
abbrev cX9_fault : ByteArray := prog_11_method_18_code
def yX9_fault : MethodName := ⟨RX9, "fault", "()I"⟩
abbrev cX9_market : ByteArray := prog_11_method_19_code
def yX9_market : MethodName := ⟨RX9, "market", "()I"⟩
abbrev cX9_sumOf : ByteArray := prog_11_method_20_code
def yX9_sumOf : MethodName := ⟨RX9, "sumOf", "(III)I"⟩
abbrev cX9_person : ByteArray := prog_11_method_21_code
def yX9_person : MethodName := ⟨RX9, "person", "(II)I"⟩
abbrev cX9_counter : ByteArray := prog_11_method_22_code
def yX9_counter : MethodName := ⟨RX9, "counter", "(II)I"⟩
abbrev cX9_barred : ByteArray := prog_11_method_23_code
def yX9_barred : MethodName := ⟨RX9, "barred", "(II)I"⟩
abbrev cX9_plaster : ByteArray := prog_11_method_24_code
def yX9_plaster : MethodName := ⟨RX9, "plaster", "(II)I"⟩
abbrev cX9_common : ByteArray := prog_11_method_25_code
def yX9_common : MethodName := ⟨RX9, "common", "(I)I"⟩
abbrev cX9_buy : ByteArray := prog_11_method_26_code
def yX9_buy : MethodName := ⟨RX9, "buy", "(III)I"⟩
abbrev cX9_undo : ByteArray := prog_11_method_27_code
def yX9_undo : MethodName := ⟨RX9, "undo", "()I"⟩
abbrev cX9_sale : ByteArray := prog_11_method_28_code
def yX9_sale : MethodName := ⟨RX9, "sale", "(II)I"⟩
abbrev cX9_divisor : ByteArray := prog_11_method_29_code
def yX9_divisor : MethodName := ⟨RX9, "divisor", "(JJ)J"⟩
abbrev cX9_truly : ByteArray := prog_11_method_30_code
def yX9_truly : MethodName := ⟨RX9, "truly", "(IIZ)I"⟩
abbrev cX9_layFew : ByteArray := prog_11_method_31_code
def yX9_layFew : MethodName := ⟨RX9, "layFew", "(II)V"⟩
abbrev cX9_can : ByteArray := prog_11_method_32_code
def yX9_can : MethodName := ⟨RX9, "can", "(IIIII)Z"⟩
abbrev cX9_layWay : ByteArray := prog_11_method_33_code
def yX9_layWay : MethodName := ⟨RX9, "layWay", "(IIII)V"⟩
abbrev cX9_findCheapest : ByteArray := prog_11_method_34_code
def yX9_findCheapest : MethodName := ⟨RX9, "findCheapest", "(II)I"⟩
abbrev cX9_cheapest : ByteArray := prog_11_method_35_code
def yX9_cheapest : MethodName := ⟨RX9, "cheapest", "(II)I"⟩
abbrev cX9_cheapestBy : ByteArray := prog_11_method_36_code
def yX9_cheapestBy : MethodName := ⟨RX9, "cheapestBy", "(III)I"⟩
abbrev cX9_exchange : ByteArray := prog_11_method_37_code
def yX9_exchange : MethodName := ⟨RX9, "exchange", "(IIIII)I"⟩
abbrev cX9_unchange : ByteArray := prog_11_method_38_code
def yX9_unchange : MethodName := ⟨RX9, "unchange", "()I"⟩
abbrev cX9_isRing : ByteArray := prog_11_method_39_code
def yX9_isRing : MethodName := ⟨RX9, "isRing", "(I)Z"⟩
abbrev cX9_findRing : ByteArray := prog_11_method_40_code
def yX9_findRing : MethodName := ⟨RX9, "findRing", "(I)Z"⟩
abbrev cX9_ring : ByteArray := prog_11_method_41_code
def yX9_ring : MethodName := ⟨RX9, "ring", "(IZ)J"⟩
abbrev cX9_ringAt : ByteArray := prog_11_method_42_code
def yX9_ringAt : MethodName := ⟨RX9, "ringAt", "(II)I"⟩
abbrev cX9_come : ByteArray := prog_11_method_43_code
def yX9_come : MethodName := ⟨RX9, "come", "(II)I"⟩
abbrev cX9_earnedBy : ByteArray := prog_11_method_44_code
def yX9_earnedBy : MethodName := ⟨RX9, "earnedBy", "(III)I"⟩
abbrev cX9_earned : ByteArray := prog_11_method_45_code
def yX9_earned : MethodName := ⟨RX9, "earned", "(III)I"⟩
abbrev cX9_ask : ByteArray := prog_11_method_46_code
def yX9_ask : MethodName := ⟨RX9, "ask", "(II)I"⟩
abbrev cX9_keeper : ByteArray := prog_11_method_47_code
def yX9_keeper : MethodName := ⟨RX9, "keeper", "(IZ)I"⟩
abbrev cX9_losersBy : ByteArray := prog_11_method_48_code
def yX9_losersBy : MethodName := ⟨RX9, "losersBy", "(I)I"⟩
abbrev cX9_losers : ByteArray := prog_11_method_49_code
def yX9_losers : MethodName := ⟨RX9, "losers", "(I)I"⟩
abbrev cX9_fairest : ByteArray := prog_11_method_50_code
def yX9_fairest : MethodName := ⟨RX9, "fairest", "()I"⟩
abbrev cX9_cut : ByteArray := prog_11_method_51_code
def yX9_cut : MethodName := ⟨RX9, "cut", "(IIZ)I"⟩
abbrev cX9_when : ByteArray := prog_11_method_52_code
def yX9_when : MethodName := ⟨RX9, "when", "(IIII)I"⟩
abbrev cX9_held : ByteArray := prog_11_method_53_code
def yX9_held : MethodName := ⟨RX9, "held", "(IIIII)I"⟩
abbrev cX9_unheld : ByteArray := prog_11_method_54_code
def yX9_unheld : MethodName := ⟨RX9, "unheld", "()I"⟩
abbrev cX9_armIn : ByteArray := prog_11_method_55_code
def yX9_armIn : MethodName := ⟨RX9, "armIn", "(II)I"⟩
abbrev cX9_fits : ByteArray := prog_11_method_56_code
def yX9_fits : MethodName := ⟨RX9, "fits", "(I)Z"⟩
abbrev cX9_layRows : ByteArray := prog_11_method_57_code
def yX9_layRows : MethodName := ⟨RX9, "layRows", "(I)I"⟩
abbrev cX9_mayBe : ByteArray := prog_11_method_58_code
def yX9_mayBe : MethodName := ⟨RX9, "mayBe", "()I"⟩
abbrev cX9_arm : ByteArray := prog_11_method_59_code
def yX9_arm : MethodName := ⟨RX9, "arm", "(IZ)I"⟩
abbrev cX9_keep : ByteArray := prog_11_method_60_code
def yX9_keep : MethodName := ⟨RX9, "keep", "(I)I"⟩
abbrev cX9_again : ByteArray := prog_11_method_61_code
def yX9_again : MethodName := ⟨RX9, "again", "(I)I"⟩
abbrev cX9_count : ByteArray := prog_11_method_62_code
def yX9_count : MethodName := ⟨RX9, "count", "(I)I"⟩
def RJ6 : String := "java/lang/Integer"
def TJ6 : u_T := fun k => match k with
  | _ => ("", "", "", false)
def tyJ6 : Nat → FieldType := fun k => match k with
  | _ => .int
abbrev wsJ60 : List Cond := u_ws RJ6 TJ6 0
theorem nmJ6 : ∀ a, a < 0 → ∀ b, b < 0 → a ≠ b → (TJ6 a).2.1 ≠ (TJ6 b).2.1 := by decide +kernel
theorem tyJ6_ok : ∀ k, k < 0 → parseFieldDescriptor (TJ6 k).2.2.1 = some (tyJ6 k) := by decide +kernel
abbrev cJ6_bitCount_0f7a4 : ByteArray := prog_12_method_49_code
def yJ6_bitCount_0f7a4 : MethodName := ⟨RJ6, "bitCount", "(I)I"⟩
def RJ9 : String := "java/lang/Math"
def TJ9 : u_T := fun k => match k with
  | _ => ("", "", "", false)
def tyJ9 : Nat → FieldType := fun k => match k with
  | _ => .int
abbrev wsJ90 : List Cond := u_ws RJ9 TJ9 0
theorem nmJ9 : ∀ a, a < 0 → ∀ b, b < 0 → a ≠ b → (TJ9 a).2.1 ≠ (TJ9 b).2.1 := by decide +kernel
theorem tyJ9_ok : ∀ k, k < 0 → parseFieldDescriptor (TJ9 k).2.2.1 = some (tyJ9 k) := by decide +kernel
abbrev cJ9_max_7cf53 : ByteArray := prog_13_method_65_code
def yJ9_max_7cf53 : MethodName := ⟨RJ9, "max", "(II)I"⟩
abbrev cJ9_min_7cf53 : ByteArray := prog_13_method_69_code
def yJ9_min_7cf53 : MethodName := ⟨RJ9, "min", "(II)I"⟩
def RJ10 : String := "java/lang/System"
def TJ10 : u_T := fun k => match k with
  | _ => ("", "", "", false)
def tyJ10 : Nat → FieldType := fun k => match k with
  | _ => .int
abbrev wsJ100 : List Cond := u_ws RJ10 TJ10 0
theorem nmJ10 : ∀ a, a < 0 → ∀ b, b < 0 → a ≠ b → (TJ10 a).2.1 ≠ (TJ10 b).2.1 := by decide +kernel
theorem tyJ10_ok : ∀ k, k < 0 → parseFieldDescriptor (TJ10 k).2.2.1 = some (tyJ10 k) := by decide +kernel
def RJ7 : String := "java/util/Arrays"
def TJ7 : u_T := fun k => match k with
  | _ => ("", "", "", false)
def tyJ7 : Nat → FieldType := fun k => match k with
  | _ => .int
abbrev wsJ70 : List Cond := u_ws RJ7 TJ7 0
theorem nmJ7 : ∀ a, a < 0 → ∀ b, b < 0 → a ≠ b → (TJ7 a).2.1 ≠ (TJ7 b).2.1 := by decide +kernel
theorem tyJ7_ok : ∀ k, k < 0 → parseFieldDescriptor (TJ7 k).2.2.1 = some (tyJ7 k) := by decide +kernel
abbrev cJ7_fill_53178 : ByteArray := prog_15_method_103_code
def yJ7_fill_53178 : MethodName := ⟨RJ7, "fill", "([II)V"⟩
def RL : String := "BuyersArmLaw"
abbrev cL_law : ByteArray := code
def yL_law : MethodName := ⟨RL, "law", "([I)Z"⟩
abbrev vwCl : List vw_C := [(RX0, TX0, 10), (RX1, TX1, 4), (RX2, TX2, 3), (RX3, TX3, 4), (RX4, TX4, 2), (RX5, TX5, 9), (RX6, TX6, 10), (RX7, TX7, 5), (RX8, TX8, 10), (RX9, TX9, 50)]
