/-! ===== BEGIN words of one list among another's, by their places ===== -/
theorem goodIn_r {big : List Cond} (ws : List Cond) (ps : List Nat) (hp : ws = ps.filterMap (fun i => big[i]?)) (h : ws.all goodWord = true) : GoodIn big ws := by
  intro w hw
  have h1 := List.all_eq_true.mp h w hw
  rw [hp] at hw
  obtain ⟨i, -, hi⟩ := List.mem_filterMap.mp hw
  have hm : w ∈ big := by first | exact List.mem_of_getElem? hi | exact List.getElem?_mem hi
  exact ⟨hm, good_of_word h1⟩
theorem goodIn_app {big a b : List Cond} (ha : GoodIn big a) (hb : GoodIn big b) : GoodIn big (a ++ b) := fun w h => (List.mem_append.mp h).elim (ha w) (hb w)
theorem goodIn_ca {big a b : List Cond} {c : Cond} (ha : GoodIn big (c :: a)) (hb : GoodIn big b) : GoodIn big (c :: (a ++ b)) := fun w h => (List.mem_cons.mp h).elim (fun e => ha w (List.mem_cons.mpr (Or.inl e))) (fun h => (List.mem_append.mp h).elim (fun h => ha w (List.mem_cons.mpr (Or.inr h))) (hb w))
theorem goodIn_sub {big ws : List Cond} (hm : ∀ w ∈ ws, w ∈ big) (h : ws.all goodWord = true) : GoodIn big ws := fun w hw => ⟨hm w hw, good_of_word (List.all_eq_true.mp h w hw)⟩
/-! ===== END ===== -/

def va_AOA (t : FieldType) (U : State) : Prop := (Cond.arrayOver (.array t)).before #[] U = true
theorem va_AOA.use {t : FieldType} {A : Array Value} {U : State} (h : va_AOA t U) : (Cond.arrayOver (.array t)).before A U = true := h
/-! ===== BEGIN new T[n][m]: the outer array a place, the inner ones among the pooled ===== -/
/-- f, but v at every address of l -/
def vr_up {α : Type} (f : Nat → α) (l : List Nat) (v : α) : Nat → α := fun a => if a ∈ l then v else f a
theorem vr_up_in {α : Type} {f : Nat → α} {l : List Nat} {v : α} {a : Nat} (h : a ∈ l) : vr_up f l v a = v := if_pos h
theorem vr_up_ne {α : Type} {f : Nat → α} {l : List Nat} {v : α} {a : Nat} (h : a ∉ l) : vr_up f l v a = f a := if_neg h
theorem vr_rows {L l : List Nat} {f : Nat → va_E} {e : va_E} (h : ∀ a, a ∈ l → a ∉ L) : va_pl L f ++ l.map (fun a => (a, e)) = va_pl (L ++ l) (vr_up f l e) := by
  unfold va_pl
  rw [List.map_append]
  congr 1
  · apply List.map_congr_left
    intro a ha
    rw [vr_up_ne (fun q => h a q ha)]
  · apply List.map_congr_left
    intro a ha
    rw [vr_up_in ha]
theorem vr_lay {X rows : va_W} {x : Nat × va_E} {pl : va_W} {D : va_G} {cl : List vw_C} {H : Heap} (hP : va_P D cl (((X ++ pl) ++ [x]) ++ rows) H) : va_P D cl ((X ++ [x]) ++ (pl ++ rows)) H := by
  rw [List.append_assoc (X ++ pl)] at hP
  have h := va_P.swap hP
  rw [← List.append_assoc X] at h
  have h2 := va_P.swap h
  rw [List.append_assoc (X ++ [x])] at h2
  exact h2
theorem vr_layD {X rows : va_W} {x : Nat × va_E} {pl : va_W} {A : Nat → Prop} (hD : va_D A (((X ++ pl) ++ [x]) ++ rows)) : va_D A ((X ++ [x]) ++ (pl ++ rows)) := by
  rw [List.append_assoc (X ++ pl)] at hD
  have h := va_D.swap hD
  rw [← List.append_assoc X] at h
  have h2 := va_D.swap h
  rw [List.append_assoc (X ++ [x])] at h2
  exact h2
theorem vr_outer (c : ClassId) (N h0 : Nat) : ∀ i : Nat, Jvm.Free.Multi.outerC c N h0 i = arrV c N (fun j => va_rf (if j < i then some (h0 + 1 + j) else none))
  | 0 => by
    show ({ cls := c, slots := Array.replicate N .null, vm := .none } : Cell) = _
    rw [arrV_new]
    refine congrArg (arrV c N) (funext fun j => ?_)
    simp [va_rf]
  | i + 1 => by
    show (Jvm.Free.Multi.outerC c N h0 i).setSlot i (.ref (h0 + 1 + i)) = _
    rw [vr_outer c N h0 i, arrV_store]
    refine congrArg (arrV c N) (funext fun j => ?_)
    by_cases e : j = i
    · subst e
      simp [updV, va_rf]
    · by_cases h : j < i
      · simp [updV, e, h, Nat.lt_succ_of_lt h]
      · simp [updV, e, h, show ¬ j < i + 1 by omega]
section VGM
variable {p : Program} {l : Launch} {e : Env} {R : Room} {s : State} {m : MethodId} {args : Array Value} {below : List Frame} {meth : Method} {c : Code} {H : Heap} {locs : List Loc} {cells slots : Nat} {Q : State → Prop}
variable {cc : ByteArray} {pc : Nat} {ls : Array Slot} {rest : List Value} {D : va_G} {cl : List vw_C} {A : Nat → Prop} {a : Nat} {tys : List (ClassId × FieldType)} {ws : va_W} {H0 : Heap}
theorem va_mna {X : va_W} {L : List Nat} {f : Nat → va_E} {cc : ByteArray} (hexec : p.tables.exec = Jvm.exec) (hb : c.code = cc) {own : String} {index : Nat} {ty : FieldType} {cy : ClassId} (hown : s.vm.findClass own = some m.cls) (hclink : (Cond.classLink own index ("[" ++ (FieldType.array ty).toString)).before args s = true) (hover : va_AOA ty s) (harr : (Cond.arrayClass ty).before args s = true) (hcy : s.vm.findClass (FieldType.array ty).toString = some cy)
    (hK : va_K D cl tys s) (hP : va_P D cl (X ++ va_pl L f) H) (hD : va_D A (X ++ va_pl L f)) (hS : va_S A H0 H locs) (hA : ∀ q, H0.size ≤ q → A q) {n k : Int32} {N' K' : Nat} {z : vp_A} (hn : ¬ n < 0) (hk : ¬ k < 0) (hN : n.toNatClampNeg = N') (hM : k.toNatClampNeg = K')
    (hb1 : N' * 4 ≤ 536870912) (hb2 : K' * componentBytes ty ≤ 536870912) (hb3 : K' ≤ 536870912) (hdf : fits ty (defaultValue ty) = true) (hdd : (defaultValue ty).isDefault = true) (hcells : cells + (1 + N') ≤ R.cells) (hslots : slots + (N' + N' * K') ≤ R.slots) (hz : ∀ c : ClassId, Jvm.Free.Multi.innerC c K' (defaultValue ty) = vp_cell c z) (hdg : decode cc pc = .ok (.multianewarray index 2, 4))
    (kk : ∀ (q : Nat) (r : Nat → Nat) (cA : ClassId) (H1 : Heap), (∀ i j : Nat, i < N' → j < N' → r i = r j → i = j) → (∀ i : Nat, i < N' → r i ∉ L) → va_K D cl (tys ++ [(cA, .array ty)]) s →
      va_P D cl ((X ++ [(q, .inl (cA, N', .inr (.inr (.inr (.inr (fun i => if i < N' then some (r i) else none))))))]) ++ va_pl (L ++ (List.range N').map r) (vr_up f ((List.range N').map r) (.inl (cy, z)))) H1 → va_D A ((X ++ [(q, .inl (cA, N', .inr (.inr (.inr (.inr (fun i => if i < N' then some (r i) else none))))))]) ++ va_pl (L ++ (List.range N').map r) (vr_up f ((List.range N').map r) (.inl (cy, z)))) → va_S A H0 H1 locs →
      W p l e R s m args below meth c H1 locs (cells + 1 + N') (slots + N' + N' * K') Q (F0 m (pc + 4) ls (.ref q :: rest))) : W p l e R s m args below meth c H locs cells slots Q (F0 m pc ls (.int k :: .int n :: rest)) := by
  subst hN
  subst hM
  intro T hT Xs
  obtain ⟨vm₁, cA, comp, -, fA, fC, hO, -, X', step⟩ := Xs.multianewarray2F hexec hown hclink (va_AOA.use hover) harr (g := F0 m pc ls (.int k :: .int n :: rest)) rfl (by rw [hb]; exact hdg) rfl hn hk hb1 hb2 hb3 hdf hdd hcells hslots
  have ec : some cy = some comp := hcy.symm.trans fC
  cases ec
  generalize hF : Jvm.Free.Multi.fill (T.setVm vm₁) cA cy n.toNatClampNeg k.toNatClampNeg (defaultValue ty) n.toNatClampNeg = F at X' step
  have hTh : (T.setVm vm₁).heap = H := hT
  obtain ⟨f1, f2, -, -⟩ := Jvm.Free.Multi.fill_facts (T.setVm vm₁) cA cy n.toNatClampNeg k.toNatClampNeg (defaultValue ty) n.toNatClampNeg
  rw [hF, hTh] at f1 f2
  have hold : ∀ x : Nat, x < H.size → F.heap[x]? = H[x]? := fun x hx => by
    have := Jvm.Free.Multi.fill_old (T.setVm vm₁) cA cy n.toNatClampNeg k.toNatClampNeg (defaultValue ty) (a := x) (by rw [hTh]; exact hx) n.toNatClampNeg
    rw [hF, hTh] at this
    exact this
  have hrow : ∀ j : Nat, j < n.toNatClampNeg → F.heap[H.size + 1 + j]? = some (vp_cell cy z) := fun j hj => by
    have := Jvm.Free.Multi.fill_inner (T.setVm vm₁) cA cy n.toNatClampNeg k.toNatClampNeg (defaultValue ty) n.toNatClampNeg j hj
    rw [hF, hTh, hz] at this
    exact this
  have hout : Jvm.Free.Multi.outerC cA n.toNatClampNeg H.size n.toNatClampNeg = vp_cell cA (n.toNatClampNeg, .inr (.inr (.inr (.inr (fun i => if i < n.toNatClampNeg then some (H.size + 1 + i) else none))))) := by
    rw [vp_cell_q]
    exact vr_outer cA n.toNatClampNeg H.size n.toNatClampNeg
  rw [hout] at f2
  have hlt : ∀ a, a ∈ L → a < H.size := fun a ha => by
    obtain ⟨k9, hk9⟩ := va_pl_get (X := X) (f := f) ha
    exact (hP k9 _ hk9).lt
  have hnl : ∀ i : Nat, i < n.toNatClampNeg → H.size + 1 + i ∉ L := fun i _ h => by
    have := hlt _ h
    omega
  have hnm : ∀ a, a ∈ (List.range n.toNatClampNeg).map (fun i => H.size + 1 + i) → a ∉ L := fun a ha h => by
    obtain ⟨i, -, rfl⟩ := List.mem_map.mp ha
    have := hlt _ h
    omega
  have hP0 : va_P D cl (X ++ va_pl L f) F.heap := hP.kept (fun k9 x hx => hold x.1 ((hP k9 x hx).lt))
  have hP1 : va_P D cl ((X ++ va_pl L f) ++ [(H.size, .inl (cA, n.toNatClampNeg, .inr (.inr (.inr (.inr (fun i => if i < n.toNatClampNeg then some (H.size + 1 + i) else none))))))]) F.heap := hP0.app (fun k9 x hx => by
    have h0 : k9 < 1 := (List.getElem?_eq_some_iff.mp hx).1
    rw [show k9 = 0 by omega] at hx
    cases hx
    exact f2)
  have hP2 : va_P D cl (((X ++ va_pl L f) ++ [(H.size, .inl (cA, n.toNatClampNeg, .inr (.inr (.inr (.inr (fun i => if i < n.toNatClampNeg then some (H.size + 1 + i) else none))))))]) ++ ((List.range n.toNatClampNeg).map (fun i => H.size + 1 + i)).map (fun a => (a, .inl (cy, z)))) F.heap := hP1.app (fun k9 x hx => by
    obtain ⟨a, ha, rfl⟩ := List.mem_map.mp (List.mem_of_getElem? hx)
    obtain ⟨i, hi, rfl⟩ := List.mem_map.mp ha
    exact hrow i (List.mem_range.mp hi))
  have hD2 : va_D A (((X ++ va_pl L f) ++ [(H.size, .inl (cA, n.toNatClampNeg, .inr (.inr (.inr (.inr (fun i => if i < n.toNatClampNeg then some (H.size + 1 + i) else none))))))]) ++ ((List.range n.toNatClampNeg).map (fun i => H.size + 1 + i)).map (fun a => (a, .inl (cy, z)))) := by
    have hD1 := hD.push (e := .inl (cA, n.toNatClampNeg, .inr (.inr (.inr (.inr (fun i => if i < n.toNatClampNeg then some (H.size + 1 + i) else none)))))) hP rfl (hA _ hS.1)
    generalize hW1 : (X ++ va_pl L f) ++ [(H.size, .inl (cA, n.toNatClampNeg, .inr (.inr (.inr (.inr (fun i => if i < n.toNatClampNeg then some (H.size + 1 + i) else none))))))] = W1 at hD1 hP1 ⊢
    have hle : ∀ (k9 : Nat) (x : Nat × va_E), W1[k9]? = some x → x.1 ≤ H.size := fun k9 x hx => by
      rw [← hW1] at hx
      by_cases hl : k9 < (X ++ va_pl L f).length
      · rw [List.getElem?_append_left hl] at hx
        exact Nat.le_of_lt ((hP k9 x hx).lt)
      · rw [List.getElem?_append_right (by omega)] at hx
        have h0 : k9 - (X ++ va_pl L f).length < 1 := (List.getElem?_eq_some_iff.mp hx).1
        rw [show k9 - (X ++ va_pl L f).length = 0 by omega] at hx
        cases hx
        exact Nat.le_refl _
    have hr : ∀ (k9 : Nat) (x : Nat × va_E), (((List.range n.toNatClampNeg).map (fun i => H.size + 1 + i)).map (fun a => ((a, .inl (cy, z)) : Nat × va_E)))[k9]? = some x → x.1 = H.size + 1 + k9 := fun k9 x hx => by
      rw [List.getElem?_map, List.getElem?_map] at hx
      by_cases h9 : k9 < n.toNatClampNeg
      · rw [List.getElem?_range h9] at hx
        cases hx
        rfl
      · have hn0 : (List.range n.toNatClampNeg)[k9]? = none := List.getElem?_eq_none (by rw [List.length_range]; omega)
        rw [hn0] at hx
        cases hx
    refine ⟨fun i j x y hi hj hxy => ?_, fun k9 x hx => ?_⟩
    · by_cases h1 : i < W1.length <;> by_cases h2 : j < W1.length
      · rw [List.getElem?_append_left h1] at hi
        rw [List.getElem?_append_left h2] at hj
        exact hD1.1 i j x y hi hj hxy
      · rw [List.getElem?_append_left h1] at hi
        rw [List.getElem?_append_right (by omega)] at hj
        have := hle _ _ hi
        have := hr _ _ hj
        omega
      · rw [List.getElem?_append_right (by omega)] at hi
        rw [List.getElem?_append_left h2] at hj
        have := hle _ _ hj
        have := hr _ _ hi
        omega
      · rw [List.getElem?_append_right (by omega)] at hi hj
        have := hr _ _ hi
        have := hr _ _ hj
        omega
    · by_cases h1 : k9 < W1.length
      · rw [List.getElem?_append_left h1] at hx
        exact hD1.2 k9 x hx
      · rw [List.getElem?_append_right (by omega)] at hx
        have := hr _ _ hx
        exact hA _ (by have := hS.1; omega)
  have hAr : ArrOfT s cA (.array ty) := fun N9 z9 => by
    obtain ⟨-, k9, hk9, cm9, hkk9⟩ := (hO 0 0 0).1
    exact ⟨(fun q hq => by cases hq), k9, hk9, cm9, hkk9⟩
  have hK2 : va_K D cl (tys ++ [(cA, .array ty)]) s := ⟨hK.1, fun k9 x hx => by
    by_cases hl : k9 < tys.length
    · rw [List.getElem?_append_left hl] at hx
      exact hK.2 k9 x hx
    · rw [List.getElem?_append_right (by omega)] at hx
      have h0 : k9 - tys.length < 1 := (List.getElem?_eq_some_iff.mp hx).1
      rw [show k9 - tys.length = 0 by omega] at hx
      cases hx
      exact ⟨hAr, fA⟩⟩
  obtain ⟨t, a1, b1⟩ := kk H.size (fun i => H.size + 1 + i) cA F.heap (fun i j _ _ h => by have h9 : H.size + 1 + i = H.size + 1 + j := h; omega) hnl hK2 (by rw [← vr_rows hnm]; exact vr_lay hP2) (by rw [← vr_rows hnm]; exact vr_layD hD2) ⟨by rw [f1]; have := hS.1; omega, fun x h1 h2 => (hold x (Nat.lt_of_lt_of_le h1 hS.1)).trans (hS.2.1 x h1 h2), hS.2.2⟩ F rfl X'
  refine ⟨t, step t ?_, b1⟩
  have e : T.heap.size = H.size := by rw [hT]
  rw [e]
  exact a1
end VGM
/-! ===== END ===== -/

/-! ===== BEGIN printed: names, fields, word lists, decode rows ===== -/
def RX0 : String := "CradleVeto$Agenda"
def TX0 : u_T := fun k => match k with
  | 0 => ("CradleVeto$Agenda", "house", "LCradleVeto$House;", true)
  | 1 => ("CradleVeto$Agenda", "readings", "[I", true)
  | 2 => ("CradleVeto$Agenda", "weights", "[J", true)
  | 3 => ("CradleVeto$Agenda", "hours", "[I", true)
  | _ => ("CradleVeto$Agenda", "size", "I", false)
def tyX0 : Nat → FieldType := fun k => match k with
  | 0 => .object "CradleVeto$House"
  | 1 => .array .int
  | 2 => .array .long
  | 3 => .array .int
  | _ => .int
abbrev wsX00 : List Cond := u_ws RX0 TX0 5
theorem nmX0 : ∀ a, a < 5 → ∀ b, b < 5 → a ≠ b → (TX0 a).2.1 ≠ (TX0 b).2.1 := by decide +kernel
theorem tyX0_ok : ∀ k, k < 5 → parseFieldDescriptor (TX0 k).2.2.1 = some (tyX0 k) := by decide +kernel
abbrev cX0_init : ByteArray := prog_2_method_1_code
def yX0_init : MethodName := ⟨RX0, "<init>", "(LCradleVeto$House;)V"⟩
abbrev cX0_size : ByteArray := prog_2_method_2_code
def yX0_size : MethodName := ⟨RX0, "size", "()I"⟩
abbrev cX0_take : ByteArray := prog_2_method_3_code
def yX0_take : MethodName := ⟨RX0, "take", "(LCradleVeto$Shelf;)V"⟩
abbrev cX0_tell : ByteArray := prog_2_method_4_code
def yX0_tell : MethodName := ⟨RX0, "tell", "(II)V"⟩
abbrev cX0_begin : ByteArray := prog_2_method_5_code
def yX0_begin : MethodName := ⟨RX0, "begin", "()V"⟩
abbrev cX0_step : ByteArray := prog_2_method_6_code
def yX0_step : MethodName := ⟨RX0, "step", "(IZ)J"⟩
abbrev cX0_passing : ByteArray := prog_2_method_7_code
def yX0_passing : MethodName := ⟨RX0, "passing", "(I)J"⟩
abbrev cX0_quietFrom : ByteArray := prog_2_method_8_code
def yX0_quietFrom : MethodName := ⟨RX0, "quietFrom", "(II)J"⟩
abbrev cX0_worthOf : ByteArray := prog_2_method_9_code
def yX0_worthOf : MethodName := ⟨RX0, "worthOf", "(I)J"⟩
abbrev cX0_drawnYears : ByteArray := prog_2_method_10_code
def yX0_drawnYears : MethodName := ⟨RX0, "drawnYears", "(IIII)I"⟩
abbrev cX0_gain : ByteArray := prog_2_method_11_code
def yX0_gain : MethodName := ⟨RX0, "gain", "(II)I"⟩
def RX1 : String := "CradleVeto$Causes"
def TX1 : u_T := fun k => match k with
  | 0 => ("CradleVeto$Causes", "house", "LCradleVeto$House;", true)
  | _ => ("CradleVeto$Causes", "likely", "[J", true)
def tyX1 : Nat → FieldType := fun k => match k with
  | 0 => .object "CradleVeto$House"
  | _ => .array .long
abbrev wsX10 : List Cond := u_ws RX1 TX1 2
theorem nmX1 : ∀ a, a < 2 → ∀ b, b < 2 → a ≠ b → (TX1 a).2.1 ≠ (TX1 b).2.1 := by decide +kernel
theorem tyX1_ok : ∀ k, k < 2 → parseFieldDescriptor (TX1 k).2.2.1 = some (tyX1 k) := by decide +kernel
abbrev cX1_init : ByteArray := prog_3_method_1_code
def yX1_init : MethodName := ⟨RX1, "<init>", "(LCradleVeto$House;)V"⟩
abbrev cX1_weigh : ByteArray := prog_3_method_2_code
def yX1_weigh : MethodName := ⟨RX1, "weigh", "(LCradleVeto$Shelf;I)V"⟩
abbrev cX1_weight : ByteArray := prog_3_method_3_code
def yX1_weight : MethodName := ⟨RX1, "weight", "(LCradleVeto$Shelf;II)J"⟩
abbrev cX1_possible : ByteArray := prog_3_method_4_code
def yX1_possible : MethodName := ⟨RX1, "possible", "()I"⟩
abbrev cX1_likeliest : ByteArray := prog_3_method_5_code
def yX1_likeliest : MethodName := ⟨RX1, "likeliest", "()I"⟩
abbrev cX1_most : ByteArray := prog_3_method_6_code
def yX1_most : MethodName := ⟨RX1, "most", "()J"⟩
abbrev cX1_together : ByteArray := prog_3_method_7_code
def yX1_together : MethodName := ⟨RX1, "together", "()J"⟩
abbrev cX1_difference : ByteArray := prog_3_method_8_code
def yX1_difference : MethodName := ⟨RX1, "difference", "(III)I"⟩
def RX2 : String := "CradleVeto$Changes"
def TX2 : u_T := fun k => match k with
  | 0 => ("CradleVeto$Changes", "house", "LCradleVeto$House;", true)
  | 1 => ("CradleVeto$Changes", "numbers", "[I", true)
  | 2 => ("CradleVeto$Changes", "whats", "[I", true)
  | 3 => ("CradleVeto$Changes", "olds", "[I", true)
  | 4 => ("CradleVeto$Changes", "news", "[I", true)
  | 5 => ("CradleVeto$Changes", "made", "I", false)
  | _ => ("CradleVeto$Changes", "all", "I", false)
def tyX2 : Nat → FieldType := fun k => match k with
  | 0 => .object "CradleVeto$House"
  | 1 => .array .int
  | 2 => .array .int
  | 3 => .array .int
  | 4 => .array .int
  | 5 => .int
  | _ => .int
abbrev wsX20 : List Cond := u_ws RX2 TX2 7
theorem nmX2 : ∀ a, a < 7 → ∀ b, b < 7 → a ≠ b → (TX2 a).2.1 ≠ (TX2 b).2.1 := by decide +kernel
theorem tyX2_ok : ∀ k, k < 7 → parseFieldDescriptor (TX2 k).2.2.1 = some (tyX2 k) := by decide +kernel
abbrev cX2_init : ByteArray := prog_4_method_1_code
def yX2_init : MethodName := ⟨RX2, "<init>", "(LCradleVeto$House;)V"⟩
abbrev cX2_behind : ByteArray := prog_4_method_2_code
def yX2_behind : MethodName := ⟨RX2, "behind", "()I"⟩
abbrev cX2_ahead : ByteArray := prog_4_method_3_code
def yX2_ahead : MethodName := ⟨RX2, "ahead", "()I"⟩
abbrev cX2_make : ByteArray := prog_4_method_4_code
def yX2_make : MethodName := ⟨RX2, "make", "(III)V"⟩
abbrev cX2_forgetFirst : ByteArray := prog_4_method_5_code
def yX2_forgetFirst : MethodName := ⟨RX2, "forgetFirst", "()V"⟩
abbrev cX2_goBack : ByteArray := prog_4_method_6_code
def yX2_goBack : MethodName := ⟨RX2, "goBack", "()Z"⟩
abbrev cX2_goOn : ByteArray := prog_4_method_7_code
def yX2_goOn : MethodName := ⟨RX2, "goOn", "()Z"⟩
def RX3 : String := "CradleVeto$Clauses"
def TX3 : u_T := fun k => match k with
  | 0 => ("CradleVeto$Clauses", "kinds", "[I", true)
  | 1 => ("CradleVeto$Clauses", "traced", "[I", true)
  | 2 => ("CradleVeto$Clauses", "size", "I", false)
  | 3 => ("CradleVeto$Clauses", "ran", "I", false)
  | 4 => ("CradleVeto$Clauses", "actor", "I", false)
  | _ => ("CradleVeto$Clauses", "actorKind", "I", false)
def tyX3 : Nat → FieldType := fun k => match k with
  | 0 => .array .int
  | 1 => .array .int
  | 2 => .int
  | 3 => .int
  | 4 => .int
  | _ => .int
abbrev wsX30 : List Cond := u_ws RX3 TX3 6
theorem nmX3 : ∀ a, a < 6 → ∀ b, b < 6 → a ≠ b → (TX3 a).2.1 ≠ (TX3 b).2.1 := by decide +kernel
theorem tyX3_ok : ∀ k, k < 6 → parseFieldDescriptor (TX3 k).2.2.1 = some (tyX3 k) := by decide +kernel
abbrev cX3_init : ByteArray := prog_5_method_1_code
def yX3_init : MethodName := ⟨RX3, "<init>", "()V"⟩
abbrev cX3_isKind : ByteArray := prog_5_method_2_code
def yX3_isKind : MethodName := ⟨RX3, "isKind", "(I)Z"⟩
abbrev cX3_isUnder : ByteArray := prog_5_method_3_code
def yX3_isUnder : MethodName := ⟨RX3, "isUnder", "(II)Z"⟩
abbrev cX3_size : ByteArray := prog_5_method_4_code
def yX3_size : MethodName := ⟨RX3, "size", "()I"⟩
abbrev cX3_ran : ByteArray := prog_5_method_5_code
def yX3_ran : MethodName := ⟨RX3, "ran", "()I"⟩
abbrev cX3_has : ByteArray := prog_5_method_6_code
def yX3_has : MethodName := ⟨RX3, "has", "(I)Z"⟩
abbrev cX3_kindOf : ByteArray := prog_5_method_7_code
def yX3_kindOf : MethodName := ⟨RX3, "kindOf", "(I)I"⟩
abbrev cX3_add : ByteArray := prog_5_method_8_code
def yX3_add : MethodName := ⟨RX3, "add", "(I)I"⟩
abbrev cX3_traceAt : ByteArray := prog_5_method_9_code
def yX3_traceAt : MethodName := ⟨RX3, "traceAt", "(I)I"⟩
abbrev cX3_perform : ByteArray := prog_5_method_10_code
def yX3_perform : MethodName := ⟨RX3, "perform", "(III)I"⟩
abbrev cX3_holder : ByteArray := prog_5_method_11_code
def yX3_holder : MethodName := ⟨RX3, "holder", "(II)I"⟩
abbrev cX3_note : ByteArray := prog_5_method_12_code
def yX3_note : MethodName := ⟨RX3, "note", "(I)V"⟩
abbrev cX3_run : ByteArray := prog_5_method_13_code
def yX3_run : MethodName := ⟨RX3, "run", "(IIII)I"⟩
def RX4 : String := "CradleVeto$Deeds"
def TX4 : u_T := fun k => match k with
  | 0 => ("CradleVeto$Deeds", "house", "LCradleVeto$House;", true)
  | 1 => ("CradleVeto$Deeds", "led", "[I", true)
  | 2 => ("CradleVeto$Deeds", "ledThen", "[I", true)
  | 3 => ("CradleVeto$Deeds", "infantThen", "[I", true)
  | _ => ("CradleVeto$Deeds", "pictured", "Z", false)
def tyX4 : Nat → FieldType := fun k => match k with
  | 0 => .object "CradleVeto$House"
  | 1 => .array .int
  | 2 => .array .int
  | 3 => .array .int
  | _ => .boolean
abbrev wsX40 : List Cond := u_ws RX4 TX4 5
theorem nmX4 : ∀ a, a < 5 → ∀ b, b < 5 → a ≠ b → (TX4 a).2.1 ≠ (TX4 b).2.1 := by decide +kernel
theorem tyX4_ok : ∀ k, k < 5 → parseFieldDescriptor (TX4 k).2.2.1 = some (tyX4 k) := by decide +kernel
abbrev cX4_init : ByteArray := prog_6_method_1_code
def yX4_init : MethodName := ⟨RX4, "<init>", "(LCradleVeto$House;)V"⟩
abbrev cX4_drawBehind : ByteArray := prog_6_method_2_code
def yX4_drawBehind : MethodName := ⟨RX4, "drawBehind", "(I)I"⟩
abbrev cX4_cries : ByteArray := prog_6_method_3_code
def yX4_cries : MethodName := ⟨RX4, "cries", "(II)Z"⟩
abbrev cX4_done : ByteArray := prog_6_method_4_code
def yX4_done : MethodName := ⟨RX4, "done", "(I)I"⟩
abbrev cX4_hear : ByteArray := prog_6_method_5_code
def yX4_hear : MethodName := ⟨RX4, "hear", "(I)I"⟩
abbrev cX4_nourish : ByteArray := prog_6_method_6_code
def yX4_nourish : MethodName := ⟨RX4, "nourish", "()I"⟩
abbrev cX4_bringIn : ByteArray := prog_6_method_7_code
def yX4_bringIn : MethodName := ⟨RX4, "bringIn", "(II)I"⟩
abbrev cX4_letPass : ByteArray := prog_6_method_8_code
def yX4_letPass : MethodName := ⟨RX4, "letPass", "(I)I"⟩
abbrev cX4_picture : ByteArray := prog_6_method_9_code
def yX4_picture : MethodName := ⟨RX4, "picture", "()V"⟩
abbrev cX4_layBack : ByteArray := prog_6_method_10_code
def yX4_layBack : MethodName := ⟨RX4, "layBack", "()Z"⟩
def RX5 : String := "CradleVeto$House"
def TX5 : u_T := fun k => match k with
  | 0 => ("CradleVeto$House", "law", "LCradleVeto$Law;", true)
  | 1 => ("CradleVeto$House", "numbers", "[[I", true)
  | 2 => ("CradleVeto$House", "bills", "I", false)
  | _ => ("CradleVeto$House", "senators", "I", false)
def tyX5 : Nat → FieldType := fun k => match k with
  | 0 => .object "CradleVeto$Law"
  | 1 => .array (.array .int)
  | 2 => .int
  | _ => .int
abbrev wsX50 : List Cond := u_ws RX5 TX5 4
theorem nmX5 : ∀ a, a < 4 → ∀ b, b < 4 → a ≠ b → (TX5 a).2.1 ≠ (TX5 b).2.1 := by decide +kernel
theorem tyX5_ok : ∀ k, k < 4 → parseFieldDescriptor (TX5 k).2.2.1 = some (tyX5 k) := by decide +kernel
abbrev cX5_init : ByteArray := prog_7_method_1_code
def yX5_init : MethodName := ⟨RX5, "<init>", "()V"⟩
abbrev cX5_billCount : ByteArray := prog_7_method_2_code
def yX5_billCount : MethodName := ⟨RX5, "billCount", "()I"⟩
abbrev cX5_senatorCount : ByteArray := prog_7_method_3_code
def yX5_senatorCount : MethodName := ⟨RX5, "senatorCount", "()I"⟩
abbrev cX5_addBill : ByteArray := prog_7_method_4_code
def yX5_addBill : MethodName := ⟨RX5, "addBill", "(III)I"⟩
abbrev cX5_addSenator : ByteArray := prog_7_method_5_code
def yX5_addSenator : MethodName := ⟨RX5, "addSenator", "(II)I"⟩
abbrev cX5_has : ByteArray := prog_7_method_6_code
def yX5_has : MethodName := ⟨RX5, "has", "(II)Z"⟩
abbrev cX5_may : ByteArray := prog_7_method_7_code
def yX5_may : MethodName := ⟨RX5, "may", "(II)Z"⟩
abbrev cX5_get : ByteArray := prog_7_method_8_code
def yX5_get : MethodName := ⟨RX5, "get", "(II)I"⟩
abbrev cX5_set : ByteArray := prog_7_method_9_code
def yX5_set : MethodName := ⟨RX5, "set", "(III)V"⟩
abbrev cX5_its : ByteArray := prog_7_method_10_code
def yX5_its : MethodName := ⟨RX5, "its", "(I)I"⟩
abbrev cX5_follow : ByteArray := prog_7_method_11_code
def yX5_follow : MethodName := ⟨RX5, "follow", "(LCradleVeto$Tape;)V"⟩
abbrev cX5_isReading : ByteArray := prog_7_method_12_code
def yX5_isReading : MethodName := ⟨RX5, "isReading", "(I)Z"⟩
abbrev cX5_reading : ByteArray := prog_7_method_13_code
def yX5_reading : MethodName := ⟨RX5, "reading", "(II)I"⟩
abbrev cX5_worth : ByteArray := prog_7_method_14_code
def yX5_worth : MethodName := ⟨RX5, "worth", "(I)I"⟩
abbrev cX5_later : ByteArray := prog_7_method_15_code
def yX5_later : MethodName := ⟨RX5, "later", "(II)I"⟩
abbrev cX5_sinceBehind : ByteArray := prog_7_method_16_code
def yX5_sinceBehind : MethodName := ⟨RX5, "sinceBehind", "(II)I"⟩
abbrev cX5_crying : ByteArray := prog_7_method_17_code
def yX5_crying : MethodName := ⟨RX5, "crying", "(IIII)I"⟩
abbrev cX5_cryingNow : ByteArray := prog_7_method_18_code
def yX5_cryingNow : MethodName := ⟨RX5, "cryingNow", "(I)I"⟩
abbrev cX5_sum : ByteArray := prog_7_method_19_code
def yX5_sum : MethodName := ⟨RX5, "sum", "(II)I"⟩
abbrev cX5_members : ByteArray := prog_7_method_20_code
def yX5_members : MethodName := ⟨RX5, "members", "(I)I"⟩
abbrev cX5_isLeague : ByteArray := prog_7_method_21_code
def yX5_isLeague : MethodName := ⟨RX5, "isLeague", "(I)Z"⟩
def RX6 : String := "CradleVeto$Law"
def TX6 : u_T := fun k => match k with
  | 0 => ("CradleVeto$Law", "code", "[I", true)
  | 1 => ("CradleVeto$Law", "named", "[I", true)
  | 2 => ("CradleVeto$Law", "stack", "[I", true)
  | _ => ("CradleVeto$Law", "size", "I", false)
def tyX6 : Nat → FieldType := fun k => match k with
  | 0 => .array .int
  | 1 => .array .int
  | 2 => .array .int
  | _ => .int
abbrev wsX60 : List Cond := u_ws RX6 TX6 4
theorem nmX6 : ∀ a, a < 4 → ∀ b, b < 4 → a ≠ b → (TX6 a).2.1 ≠ (TX6 b).2.1 := by decide +kernel
theorem tyX6_ok : ∀ k, k < 4 → parseFieldDescriptor (TX6 k).2.2.1 = some (tyX6 k) := by decide +kernel
abbrev cX6_init : ByteArray := prog_8_method_1_code
def yX6_init : MethodName := ⟨RX6, "<init>", "()V"⟩
abbrev cX6_nameOf : ByteArray := prog_8_method_2_code
def yX6_nameOf : MethodName := ⟨RX6, "nameOf", "(I)I"⟩
abbrev cX6_become : ByteArray := prog_8_method_3_code
def yX6_become : MethodName := ⟨RX6, "become", "(LCradleVeto$Tape;)V"⟩
abbrev cX6_tell : ByteArray := prog_8_method_4_code
def yX6_tell : MethodName := ⟨RX6, "tell", "(IIIIII)V"⟩
abbrev cX6_isWritten : ByteArray := prog_8_method_5_code
def yX6_isWritten : MethodName := ⟨RX6, "isWritten", "()Z"⟩
abbrev cX6_unwritten : ByteArray := prog_8_method_6_code
def yX6_unwritten : MethodName := ⟨RX6, "unwritten", "()I"⟩
abbrev cX6_written : ByteArray := prog_8_method_7_code
def yX6_written : MethodName := ⟨RX6, "written", "()I"⟩
abbrev cX6_endOfLine : ByteArray := prog_8_method_8_code
def yX6_endOfLine : MethodName := ⟨RX6, "endOfLine", "(I)I"⟩
abbrev cX6_worked : ByteArray := prog_8_method_9_code
def yX6_worked : MethodName := ⟨RX6, "worked", "(III)I"⟩
def RX7 : String := "CradleVeto$Nurses"
def TX7 : u_T := fun k => match k with
  | 0 => ("CradleVeto$Nurses", "house", "LCradleVeto$House;", true)
  | 1 => ("CradleVeto$Nurses", "ends", "[I", true)
  | 2 => ("CradleVeto$Nurses", "before", "[I", true)
  | 3 => ("CradleVeto$Nurses", "outcome", "I", false)
  | _ => ("CradleVeto$Nurses", "firstMove", "I", false)
def tyX7 : Nat → FieldType := fun k => match k with
  | 0 => .object "CradleVeto$House"
  | 1 => .array .int
  | 2 => .array .int
  | 3 => .int
  | _ => .int
abbrev wsX70 : List Cond := u_ws RX7 TX7 5
theorem nmX7 : ∀ a, a < 5 → ∀ b, b < 5 → a ≠ b → (TX7 a).2.1 ≠ (TX7 b).2.1 := by decide +kernel
theorem tyX7_ok : ∀ k, k < 5 → parseFieldDescriptor (TX7 k).2.2.1 = some (tyX7 k) := by decide +kernel
abbrev cX7_init : ByteArray := prog_9_method_1_code
def yX7_init : MethodName := ⟨RX7, "<init>", "(LCradleVeto$House;)V"⟩
abbrev cX7_outcome : ByteArray := prog_9_method_2_code
def yX7_outcome : MethodName := ⟨RX7, "outcome", "()I"⟩
abbrev cX7_firstMove : ByteArray := prog_9_method_3_code
def yX7_firstMove : MethodName := ⟨RX7, "firstMove", "()I"⟩
abbrev cX7_play : ByteArray := prog_9_method_4_code
def yX7_play : MethodName := ⟨RX7, "play", "(II)V"⟩
abbrev cX7_choice : ByteArray := prog_9_method_5_code
def yX7_choice : MethodName := ⟨RX7, "choice", "(IZ)I"⟩
abbrev cX7_end : ByteArray := prog_9_method_6_code
def yX7_end : MethodName := ⟨RX7, "end", "(II)I"⟩
def RX8 : String := "CradleVeto$Orders"
def TX8 : u_T := fun k => match k with
  | 0 => ("CradleVeto$Orders", "house", "LCradleVeto$House;", true)
  | 1 => ("CradleVeto$Orders", "agenda", "LCradleVeto$Agenda;", true)
  | 2 => ("CradleVeto$Orders", "now", "[I", true)
  | 3 => ("CradleVeto$Orders", "best", "[I", true)
  | 4 => ("CradleVeto$Orders", "size", "I", false)
  | _ => ("CradleVeto$Orders", "most", "J", false)
def tyX8 : Nat → FieldType := fun k => match k with
  | 0 => .object "CradleVeto$House"
  | 1 => .object "CradleVeto$Agenda"
  | 2 => .array .int
  | 3 => .array .int
  | 4 => .int
  | _ => .long
abbrev wsX80 : List Cond := u_ws RX8 TX8 6
theorem nmX8 : ∀ a, a < 6 → ∀ b, b < 6 → a ≠ b → (TX8 a).2.1 ≠ (TX8 b).2.1 := by decide +kernel
theorem tyX8_ok : ∀ k, k < 6 → parseFieldDescriptor (TX8 k).2.2.1 = some (tyX8 k) := by decide +kernel
abbrev cX8_init : ByteArray := prog_10_method_1_code
def yX8_init : MethodName := ⟨RX8, "<init>", "(LCradleVeto$House;LCradleVeto$Agenda;)V"⟩
abbrev cX8_mayBe : ByteArray := prog_10_method_2_code
def yX8_mayBe : MethodName := ⟨RX8, "mayBe", "(II)Z"⟩
abbrev cX8_most : ByteArray := prog_10_method_3_code
def yX8_most : MethodName := ⟨RX8, "most", "()J"⟩
abbrev cX8_bestAt : ByteArray := prog_10_method_4_code
def yX8_bestAt : MethodName := ⟨RX8, "bestAt", "(I)I"⟩
abbrev cX8_seek : ByteArray := prog_10_method_5_code
def yX8_seek : MethodName := ⟨RX8, "seek", "(II)V"⟩
abbrev cX8_first : ByteArray := prog_10_method_6_code
def yX8_first : MethodName := ⟨RX8, "first", "(I)V"⟩
abbrev cX8_goOn : ByteArray := prog_10_method_7_code
def yX8_goOn : MethodName := ⟨RX8, "goOn", "()Z"⟩
abbrev cX8_swap : ByteArray := prog_10_method_8_code
def yX8_swap : MethodName := ⟨RX8, "swap", "(II)V"⟩
def RX9 : String := "CradleVeto$Shelf"
def TX9 : u_T := fun k => match k with
  | 0 => ("CradleVeto$Shelf", "elements", "[J", true)
  | 1 => ("CradleVeto$Shelf", "holds", "I", false)
  | 2 => ("CradleVeto$Shelf", "body", "I", false)
  | 3 => ("CradleVeto$Shelf", "sort", "I", false)
  | _ => ("CradleVeto$Shelf", "length", "I", false)
def tyX9 : Nat → FieldType := fun k => match k with
  | 0 => .array .long
  | 1 => .int
  | 2 => .int
  | 3 => .int
  | _ => .int
abbrev wsX90 : List Cond := u_ws RX9 TX9 5
theorem nmX9 : ∀ a, a < 5 → ∀ b, b < 5 → a ≠ b → (TX9 a).2.1 ≠ (TX9 b).2.1 := by decide +kernel
theorem tyX9_ok : ∀ k, k < 5 → parseFieldDescriptor (TX9 k).2.2.1 = some (tyX9 k) := by decide +kernel
abbrev cX9_init : ByteArray := prog_11_method_1_code
def yX9_init : MethodName := ⟨RX9, "<init>", "()V"⟩
abbrev cX9_isEmpty : ByteArray := prog_11_method_2_code
def yX9_isEmpty : MethodName := ⟨RX9, "isEmpty", "()Z"⟩
abbrev cX9_isRow : ByteArray := prog_11_method_3_code
def yX9_isRow : MethodName := ⟨RX9, "isRow", "()Z"⟩
abbrev cX9_isLike : ByteArray := prog_11_method_4_code
def yX9_isLike : MethodName := ⟨RX9, "isLike", "(LCradleVeto$Shelf;)Z"⟩
abbrev cX9_refusalOfBytes : ByteArray := prog_11_method_5_code
def yX9_refusalOfBytes : MethodName := ⟨RX9, "refusalOfBytes", "()I"⟩
abbrev cX9_heldBody : ByteArray := prog_11_method_6_code
def yX9_heldBody : MethodName := ⟨RX9, "heldBody", "()I"⟩
abbrev cX9_clear : ByteArray := prog_11_method_7_code
def yX9_clear : MethodName := ⟨RX9, "clear", "()V"⟩
abbrev cX9_holdBody : ByteArray := prog_11_method_8_code
def yX9_holdBody : MethodName := ⟨RX9, "holdBody", "(I)V"⟩
abbrev cX9_holdRow : ByteArray := prog_11_method_9_code
def yX9_holdRow : MethodName := ⟨RX9, "holdRow", "(II)V"⟩
abbrev cX9_hasPlaces : ByteArray := prog_11_method_10_code
def yX9_hasPlaces : MethodName := ⟨RX9, "hasPlaces", "(II)Z"⟩
abbrev cX9_set : ByteArray := prog_11_method_11_code
def yX9_set : MethodName := ⟨RX9, "set", "(IJ)V"⟩
abbrev cX9_get : ByteArray := prog_11_method_12_code
def yX9_get : MethodName := ⟨RX9, "get", "(I)J"⟩
abbrev cX9_byteAt : ByteArray := prog_11_method_13_code
def yX9_byteAt : MethodName := ⟨RX9, "byteAt", "(I)I"⟩
abbrev cX9_copy : ByteArray := prog_11_method_14_code
def yX9_copy : MethodName := ⟨RX9, "copy", "(LCradleVeto$Shelf;III)V"⟩
abbrev cX9_cut : ByteArray := prog_11_method_15_code
def yX9_cut : MethodName := ⟨RX9, "cut", "(J)J"⟩
def RX10 : String := "CradleVeto$Tape"
def TX10 : u_T := fun k => match k with
  | 0 => ("CradleVeto$Tape", "bytes", "[I", true)
  | 1 => ("CradleVeto$Tape", "code", "[I", true)
  | 2 => ("CradleVeto$Tape", "length", "I", false)
  | 3 => ("CradleVeto$Tape", "at", "I", false)
  | _ => ("CradleVeto$Tape", "size", "I", false)
def tyX10 : Nat → FieldType := fun k => match k with
  | 0 => .array .int
  | 1 => .array .int
  | 2 => .int
  | 3 => .int
  | _ => .int
abbrev wsX100 : List Cond := u_ws RX10 TX10 5
theorem nmX10 : ∀ a, a < 5 → ∀ b, b < 5 → a ≠ b → (TX10 a).2.1 ≠ (TX10 b).2.1 := by decide +kernel
theorem tyX10_ok : ∀ k, k < 5 → parseFieldDescriptor (TX10 k).2.2.1 = some (tyX10 k) := by decide +kernel
abbrev cX10_init : ByteArray := prog_12_method_1_code
def yX10_init : MethodName := ⟨RX10, "<init>", "()V"⟩
abbrev cX10_length : ByteArray := prog_12_method_2_code
def yX10_length : MethodName := ⟨RX10, "length", "()I"⟩
abbrev cX10_codeSize : ByteArray := prog_12_method_3_code
def yX10_codeSize : MethodName := ⟨RX10, "codeSize", "()I"⟩
abbrev cX10_codeAt : ByteArray := prog_12_method_4_code
def yX10_codeAt : MethodName := ⟨RX10, "codeAt", "(I)I"⟩
abbrev cX10_take : ByteArray := prog_12_method_5_code
def yX10_take : MethodName := ⟨RX10, "take", "(I)I"⟩
abbrev cX10_clear : ByteArray := prog_12_method_6_code
def yX10_clear : MethodName := ⟨RX10, "clear", "()V"⟩
abbrev cX10_fault : ByteArray := prog_12_method_7_code
def yX10_fault : MethodName := ⟨RX10, "fault", "()I"⟩
abbrev cX10_next : ByteArray := prog_12_method_8_code
def yX10_next : MethodName := ⟨RX10, "next", "()I"⟩
abbrev cX10_emit : ByteArray := prog_12_method_9_code
def yX10_emit : MethodName := ⟨RX10, "emit", "(I)V"⟩
abbrev cX10_isLine : ByteArray := prog_12_method_10_code
def yX10_isLine : MethodName := ⟨RX10, "isLine", "()Z"⟩
abbrev cX10_levelOf : ByteArray := prog_12_method_11_code
def yX10_levelOf : MethodName := ⟨RX10, "levelOf", "(I)I"⟩
abbrev cX10_isExpression : ByteArray := prog_12_method_12_code
def yX10_isExpression : MethodName := ⟨RX10, "isExpression", "(II)Z"⟩
abbrev cX10_isOperand : ByteArray := prog_12_method_13_code
def yX10_isOperand : MethodName := ⟨RX10, "isOperand", "(I)Z"⟩
abbrev cX10_isEnclosed : ByteArray := prog_12_method_14_code
def yX10_isEnclosed : MethodName := ⟨RX10, "isEnclosed", "(I)Z"⟩
abbrev cX10_isSigned : ByteArray := prog_12_method_15_code
def yX10_isSigned : MethodName := ⟨RX10, "isSigned", "(II)Z"⟩
abbrev cX10_isDigit : ByteArray := prog_12_method_16_code
def yX10_isDigit : MethodName := ⟨RX10, "isDigit", "(I)Z"⟩
abbrev cX10_isNumber : ByteArray := prog_12_method_17_code
def yX10_isNumber : MethodName := ⟨RX10, "isNumber", "()Z"⟩
def RX11 : String := "CradleVeto"
def TX11 : u_T := fun k => match k with
  | 0 => ("CradleVeto", "house", "LCradleVeto$House;", true)
  | 1 => ("CradleVeto", "tape", "LCradleVeto$Tape;", true)
  | 2 => ("CradleVeto", "changes", "LCradleVeto$Changes;", true)
  | 3 => ("CradleVeto", "agenda", "LCradleVeto$Agenda;", true)
  | 4 => ("CradleVeto", "orders", "LCradleVeto$Orders;", true)
  | 5 => ("CradleVeto", "reasons", "LCradleVeto$Causes;", true)
  | 6 => ("CradleVeto", "nurses", "LCradleVeto$Nurses;", true)
  | 7 => ("CradleVeto", "deeds", "LCradleVeto$Deeds;", true)
  | 8 => ("CradleVeto", "clauses", "LCradleVeto$Clauses;", true)
  | _ => ("CradleVeto", "shelves", "[LCradleVeto$Shelf;", true)
def tyX11 : Nat → FieldType := fun k => match k with
  | 0 => .object "CradleVeto$House"
  | 1 => .object "CradleVeto$Tape"
  | 2 => .object "CradleVeto$Changes"
  | 3 => .object "CradleVeto$Agenda"
  | 4 => .object "CradleVeto$Orders"
  | 5 => .object "CradleVeto$Causes"
  | 6 => .object "CradleVeto$Nurses"
  | 7 => .object "CradleVeto$Deeds"
  | 8 => .object "CradleVeto$Clauses"
  | _ => .array (.object "CradleVeto$Shelf")
abbrev wsX110 : List Cond := u_ws RX11 TX11 10
theorem nmX11 : ∀ a, a < 10 → ∀ b, b < 10 → a ≠ b → (TX11 a).2.1 ≠ (TX11 b).2.1 := by decide +kernel
theorem tyX11_ok : ∀ k, k < 10 → parseFieldDescriptor (TX11 k).2.2.1 = some (tyX11 k) := by decide +kernel
abbrev cX11_init : ByteArray := prog_1_method_1_code
def yX11_init : MethodName := ⟨RX11, "<init>", "()V"⟩
abbrev cX11_bill : ByteArray := prog_1_method_2_code
def yX11_bill : MethodName := ⟨RX11, "bill", "(I)I"⟩
abbrev cX11_bills : ByteArray := prog_1_method_3_code
def yX11_bills : MethodName := ⟨RX11, "bills", "(III)I"⟩
abbrev cX11_senator : ByteArray := prog_1_method_4_code
def yX11_senator : MethodName := ⟨RX11, "senator", "(II)I"⟩
abbrev cX11_mend : ByteArray := prog_1_method_5_code
def yX11_mend : MethodName := ⟨RX11, "mend", "(III)I"⟩
abbrev cX11_of : ByteArray := prog_1_method_6_code
def yX11_of : MethodName := ⟨RX11, "of", "(II)I"⟩
abbrev cX11_feed : ByteArray := prog_1_method_7_code
def yX11_feed : MethodName := ⟨RX11, "feed", "(I)I"⟩
abbrev cX11_law : ByteArray := prog_1_method_8_code
def yX11_law : MethodName := ⟨RX11, "law", "()I"⟩
abbrev cX11_cross : ByteArray := prog_1_method_9_code
def yX11_cross : MethodName := ⟨RX11, "cross", "(I)I"⟩
abbrev cX11_reader : ByteArray := prog_1_method_10_code
def yX11_reader : MethodName := ⟨RX11, "reader", "(I)I"⟩
abbrev cX11_passes : ByteArray := prog_1_method_11_code
def yX11_passes : MethodName := ⟨RX11, "passes", "(III)J"⟩
abbrev cX11_quiet : ByteArray := prog_1_method_12_code
def yX11_quiet : MethodName := ⟨RX11, "quiet", "(IIII)J"⟩
abbrev cX11_mean : ByteArray := prog_1_method_13_code
def yX11_mean : MethodName := ⟨RX11, "mean", "(III)J"⟩
abbrev cX11_order : ByteArray := prog_1_method_14_code
def yX11_order : MethodName := ⟨RX11, "order", "(III)I"⟩
abbrev cX11_orderWorth : ByteArray := prog_1_method_15_code
def yX11_orderWorth : MethodName := ⟨RX11, "orderWorth", "(III)J"⟩
abbrev cX11_pack : ByteArray := prog_1_method_16_code
def yX11_pack : MethodName := ⟨RX11, "pack", "(II)I"⟩
abbrev cX11_causes : ByteArray := prog_1_method_17_code
def yX11_causes : MethodName := ⟨RX11, "causes", "(II)I"⟩
abbrev cX11_cause : ByteArray := prog_1_method_18_code
def yX11_cause : MethodName := ⟨RX11, "cause", "(III)J"⟩
abbrev cX11_apart : ByteArray := prog_1_method_19_code
def yX11_apart : MethodName := ⟨RX11, "apart", "(II)I"⟩
abbrev cX11_power : ByteArray := prog_1_method_20_code
def yX11_power : MethodName := ⟨RX11, "power", "(II)J"⟩
abbrev cX11_leagues : ByteArray := prog_1_method_21_code
def yX11_leagues : MethodName := ⟨RX11, "leagues", "(I)I"⟩
abbrev cX11_byTurns : ByteArray := prog_1_method_22_code
def yX11_byTurns : MethodName := ⟨RX11, "byTurns", "(III)I"⟩
abbrev cX11_drawn : ByteArray := prog_1_method_23_code
def yX11_drawn : MethodName := ⟨RX11, "drawn", "(IIII)I"⟩
abbrev cX11_read : ByteArray := prog_1_method_24_code
def yX11_read : MethodName := ⟨RX11, "read", "(I)I"⟩
abbrev cX11_fed : ByteArray := prog_1_method_25_code
def yX11_fed : MethodName := ⟨RX11, "fed", "()I"⟩
abbrev cX11_born : ByteArray := prog_1_method_26_code
def yX11_born : MethodName := ⟨RX11, "born", "(II)I"⟩
abbrev cX11_pass : ByteArray := prog_1_method_27_code
def yX11_pass : MethodName := ⟨RX11, "pass", "(I)I"⟩
abbrev cX11_led : ByteArray := prog_1_method_28_code
def yX11_led : MethodName := ⟨RX11, "led", "(I)I"⟩
abbrev cX11_image : ByteArray := prog_1_method_29_code
def yX11_image : MethodName := ⟨RX11, "image", "()I"⟩
abbrev cX11_back : ByteArray := prog_1_method_30_code
def yX11_back : MethodName := ⟨RX11, "back", "()I"⟩
abbrev cX11_undo : ByteArray := prog_1_method_31_code
def yX11_undo : MethodName := ⟨RX11, "undo", "()I"⟩
abbrev cX11_redo : ByteArray := prog_1_method_32_code
def yX11_redo : MethodName := ⟨RX11, "redo", "()I"⟩
abbrev cX11_body : ByteArray := prog_1_method_33_code
def yX11_body : MethodName := ⟨RX11, "body", "(I)I"⟩
abbrev cX11_act : ByteArray := prog_1_method_34_code
def yX11_act : MethodName := ⟨RX11, "act", "(III)I"⟩
abbrev cX11_trace : ByteArray := prog_1_method_35_code
def yX11_trace : MethodName := ⟨RX11, "trace", "(I)I"⟩
abbrev cX11_keep : ByteArray := prog_1_method_36_code
def yX11_keep : MethodName := ⟨RX11, "keep", "(II)I"⟩
abbrev cX11_row : ByteArray := prog_1_method_37_code
def yX11_row : MethodName := ⟨RX11, "row", "(III)I"⟩
abbrev cX11_put : ByteArray := prog_1_method_38_code
def yX11_put : MethodName := ⟨RX11, "put", "(IIJ)I"⟩
abbrev cX11_element : ByteArray := prog_1_method_39_code
def yX11_element : MethodName := ⟨RX11, "element", "(II)J"⟩
abbrev cX11_shift : ByteArray := prog_1_method_40_code
def yX11_shift : MethodName := ⟨RX11, "shift", "(IIIII)I"⟩
abbrev cX11_taken : ByteArray := prog_1_method_41_code
def yX11_taken : MethodName := ⟨RX11, "taken", "(II)I"⟩
abbrev cX11_count : ByteArray := prog_1_method_42_code
def yX11_count : MethodName := ⟨RX11, "count", "(I)I"⟩
abbrev cX11_isShelf : ByteArray := prog_1_method_43_code
def yX11_isShelf : MethodName := ⟨RX11, "isShelf", "(I)Z"⟩
abbrev cX11_isPart : ByteArray := prog_1_method_44_code
def yX11_isPart : MethodName := ⟨RX11, "isPart", "(I)Z"⟩
abbrev cX11_isCount : ByteArray := prog_1_method_45_code
def yX11_isCount : MethodName := ⟨RX11, "isCount", "(I)Z"⟩
abbrev cX11_takesAgenda : ByteArray := prog_1_method_46_code
def yX11_takesAgenda : MethodName := ⟨RX11, "takesAgenda", "(I)Z"⟩
abbrev cX11_refusalOfPlace : ByteArray := prog_1_method_47_code
def yX11_refusalOfPlace : MethodName := ⟨RX11, "refusalOfPlace", "(II)I"⟩
abbrev cX11_billComes : ByteArray := prog_1_method_48_code
def yX11_billComes : MethodName := ⟨RX11, "billComes", "(LCradleVeto$Shelf;I)Z"⟩
abbrev cX11_isBetterPack : ByteArray := prog_1_method_49_code
def yX11_isBetterPack : MethodName := ⟨RX11, "isBetterPack", "(II)Z"⟩
abbrev cX11_twelves : ByteArray := prog_1_method_50_code
def yX11_twelves : MethodName := ⟨RX11, "twelves", "(I)J"⟩
abbrev cX11_partOf : ByteArray := prog_1_method_51_code
def yX11_partOf : MethodName := ⟨RX11, "partOf", "(JJI)J"⟩
abbrev cX11_commonOf : ByteArray := prog_1_method_52_code
def yX11_commonOf : MethodName := ⟨RX11, "commonOf", "(JJ)J"⟩
def RX12 : String := "CradleVetoModel"
def TX12 : u_T := fun k => match k with
  | 0 => ("CradleVetoModel", "code", "I", false)
  | 1 => ("CradleVetoModel", "billMany", "I", false)
  | 2 => ("CradleVetoModel", "lengthOf", "[I", true)
  | 3 => ("CradleVetoModel", "sharpOf", "[I", true)
  | 4 => ("CradleVetoModel", "matterOf", "[I", true)
  | 5 => ("CradleVetoModel", "worthOf", "[I", true)
  | 6 => ("CradleVetoModel", "senatorMany", "I", false)
  | 7 => ("CradleVetoModel", "rumbleOf", "[I", true)
  | 8 => ("CradleVetoModel", "partyOf", "[I", true)
  | 9 => ("CradleVetoModel", "infant", "[I", true)
  | 10 => ("CradleVetoModel", "doneMany", "I", false)
  | 11 => ("CradleVetoModel", "undoneMany", "I", false)
  | 12 => ("CradleVetoModel", "changeOf", "[I", true)
  | 13 => ("CradleVetoModel", "changeAt", "[I", true)
  | 14 => ("CradleVetoModel", "before", "[I", true)
  | 15 => ("CradleVetoModel", "behind", "[I", true)
  | 16 => ("CradleVetoModel", "tape", "[B", true)
  | 17 => ("CradleVetoModel", "taped", "I", false)
  | 18 => ("CradleVetoModel", "here", "I", false)
  | 19 => ("CradleVetoModel", "fault", "I", false)
  | 20 => ("CradleVetoModel", "open", "I", false)
  | 21 => ("CradleVetoModel", "laid", "I", false)
  | 22 => ("CradleVetoModel", "act", "[B", true)
  | 23 => ("CradleVetoModel", "with", "[I", true)
  | 24 => ("CradleVetoModel", "lineMany", "[I", true)
  | 25 => ("CradleVetoModel", "testEnd", "[S", true)
  | 26 => ("CradleVetoModel", "lineEnd", "[S", true)
  | 27 => ("CradleVetoModel", "facts", "[I", true)
  | 28 => ("CradleVetoModel", "pile", "[I", true)
  | 29 => ("CradleVetoModel", "hasLaw", "Z", false)
  | 30 => ("CradleVetoModel", "agenda", "[I", true)
  | 31 => ("CradleVetoModel", "agendaMany", "I", false)
  | 32 => ("CradleVetoModel", "weight", "[J", true)
  | 33 => ("CradleVetoModel", "weight2", "[J", true)
  | 34 => ("CradleVetoModel", "below", "J", false)
  | 35 => ("CradleVetoModel", "passed", "J", false)
  | 36 => ("CradleVetoModel", "meanAbove", "J", false)
  | 37 => ("CradleVetoModel", "bestOrder", "[I", true)
  | 38 => ("CradleVetoModel", "orderMany", "I", false)
  | 39 => ("CradleVetoModel", "bestMean", "J", false)
  | 40 => ("CradleVetoModel", "chance", "[J", true)
  | 41 => ("CradleVetoModel", "ledOf", "[I", true)
  | 42 => ("CradleVetoModel", "hasImage", "Z", false)
  | 43 => ("CradleVetoModel", "keptInfant", "[I", true)
  | 44 => ("CradleVetoModel", "keptLed", "[I", true)
  | 45 => ("CradleVetoModel", "bodies", "I", false)
  | 46 => ("CradleVetoModel", "kind", "[I", true)
  | 47 => ("CradleVetoModel", "traces", "I", false)
  | 48 => ("CradleVetoModel", "traced", "[I", true)
  | 49 => ("CradleVetoModel", "holds", "[I", true)
  | 50 => ("CradleVetoModel", "size", "[I", true)
  | 51 => ("CradleVetoModel", "elements", "[J", true)
  | _ => ("CradleVetoModel", "shifted", "[J", true)
def tyX12 : Nat → FieldType := fun k => match k with
  | 0 => .int
  | 1 => .int
  | 2 => .array .int
  | 3 => .array .int
  | 4 => .array .int
  | 5 => .array .int
  | 6 => .int
  | 7 => .array .int
  | 8 => .array .int
  | 9 => .array .int
  | 10 => .int
  | 11 => .int
  | 12 => .array .int
  | 13 => .array .int
  | 14 => .array .int
  | 15 => .array .int
  | 16 => .array .byte
  | 17 => .int
  | 18 => .int
  | 19 => .int
  | 20 => .int
  | 21 => .int
  | 22 => .array .byte
  | 23 => .array .int
  | 24 => .array .int
  | 25 => .array .short
  | 26 => .array .short
  | 27 => .array .int
  | 28 => .array .int
  | 29 => .boolean
  | 30 => .array .int
  | 31 => .int
  | 32 => .array .long
  | 33 => .array .long
  | 34 => .long
  | 35 => .long
  | 36 => .long
  | 37 => .array .int
  | 38 => .int
  | 39 => .long
  | 40 => .array .long
  | 41 => .array .int
  | 42 => .boolean
  | 43 => .array .int
  | 44 => .array .int
  | 45 => .int
  | 46 => .array .int
  | 47 => .int
  | 48 => .array .int
  | 49 => .array .int
  | 50 => .array .int
  | 51 => .array .long
  | _ => .array .long
abbrev wsX120 : List Cond := u_ws RX12 TX12 53
theorem nmX12 : ∀ a, a < 53 → ∀ b, b < 53 → a ≠ b → (TX12 a).2.1 ≠ (TX12 b).2.1 := by decide +kernel
theorem tyX12_ok : ∀ k, k < 53 → parseFieldDescriptor (TX12 k).2.2.1 = some (tyX12 k) := by decide +kernel
abbrev cX12_init : ByteArray := prog_14_method_1_code
def yX12_init : MethodName := ⟨RX12, "<init>", "()V"⟩
abbrev cX12_in : ByteArray := prog_14_method_3_code
def yX12_in : MethodName := ⟨RX12, "in", "(III)Z"⟩
abbrev cX12_has : ByteArray := prog_14_method_4_code
def yX12_has : MethodName := ⟨RX12, "has", "(II)Z"⟩
abbrev cX12_bitsOf : ByteArray := prog_14_method_5_code
def yX12_bitsOf : MethodName := ⟨RX12, "bitsOf", "(I)I"⟩
abbrev cX12_isBill : ByteArray := prog_14_method_6_code
def yX12_isBill : MethodName := ⟨RX12, "isBill", "(I)Z"⟩
abbrev cX12_isSenator : ByteArray := prog_14_method_7_code
def yX12_isSenator : MethodName := ⟨RX12, "isSenator", "(I)Z"⟩
abbrev cX12_areTwo : ByteArray := prog_14_method_8_code
def yX12_areTwo : MethodName := ⟨RX12, "areTwo", "(I)Z"⟩
abbrev cX12_addBill : ByteArray := prog_14_method_9_code
def yX12_addBill : MethodName := ⟨RX12, "addBill", "(III)I"⟩
abbrev cX12_bill : ByteArray := prog_14_method_10_code
def yX12_bill : MethodName := ⟨RX12, "bill", "(I)I"⟩
abbrev cX12_bills : ByteArray := prog_14_method_11_code
def yX12_bills : MethodName := ⟨RX12, "bills", "(III)I"⟩
abbrev cX12_senator : ByteArray := prog_14_method_12_code
def yX12_senator : MethodName := ⟨RX12, "senator", "(II)I"⟩
abbrev cX12_valueAt : ByteArray := prog_14_method_13_code
def yX12_valueAt : MethodName := ⟨RX12, "valueAt", "(II)I"⟩
abbrev cX12_lays : ByteArray := prog_14_method_14_code
def yX12_lays : MethodName := ⟨RX12, "lays", "(III)V"⟩
abbrev cX12_changes : ByteArray := prog_14_method_15_code
def yX12_changes : MethodName := ⟨RX12, "changes", "(III)I"⟩
abbrev cX12_undo : ByteArray := prog_14_method_16_code
def yX12_undo : MethodName := ⟨RX12, "undo", "()I"⟩
abbrev cX12_redo : ByteArray := prog_14_method_17_code
def yX12_redo : MethodName := ⟨RX12, "redo", "()I"⟩
abbrev cX12_isPlace : ByteArray := prog_14_method_18_code
def yX12_isPlace : MethodName := ⟨RX12, "isPlace", "(II)Z"⟩
abbrev cX12_mayHave : ByteArray := prog_14_method_19_code
def yX12_mayHave : MethodName := ⟨RX12, "mayHave", "(II)Z"⟩
abbrev cX12_mend : ByteArray := prog_14_method_20_code
def yX12_mend : MethodName := ⟨RX12, "mend", "(III)I"⟩
abbrev cX12_of : ByteArray := prog_14_method_21_code
def yX12_of : MethodName := ⟨RX12, "of", "(II)I"⟩
abbrev cX12_feed : ByteArray := prog_14_method_22_code
def yX12_feed : MethodName := ⟨RX12, "feed", "(I)I"⟩
abbrev cX12_look : ByteArray := prog_14_method_23_code
def yX12_look : MethodName := ⟨RX12, "look", "()I"⟩
abbrev cX12_wrong : ByteArray := prog_14_method_24_code
def yX12_wrong : MethodName := ⟨RX12, "wrong", "()V"⟩
abbrev cX12_addStep : ByteArray := prog_14_method_25_code
def yX12_addStep : MethodName := ⟨RX12, "addStep", "(II)V"⟩
abbrev cX12_nameOf : ByteArray := prog_14_method_26_code
def yX12_nameOf : MethodName := ⟨RX12, "nameOf", "(I)I"⟩
abbrev cX12_opens : ByteArray := prog_14_method_27_code
def yX12_opens : MethodName := ⟨RX12, "opens", "()Z"⟩
abbrev cX12_figure : ByteArray := prog_14_method_28_code
def yX12_figure : MethodName := ⟨RX12, "figure", "()V"⟩
abbrev cX12_operand : ByteArray := prog_14_method_29_code
def yX12_operand : MethodName := ⟨RX12, "operand", "()V"⟩
abbrev cX12_product : ByteArray := prog_14_method_30_code
def yX12_product : MethodName := ⟨RX12, "product", "()V"⟩
abbrev cX12_sum : ByteArray := prog_14_method_31_code
def yX12_sum : MethodName := ⟨RX12, "sum", "()V"⟩
abbrev cX12_compared : ByteArray := prog_14_method_32_code
def yX12_compared : MethodName := ⟨RX12, "compared", "()V"⟩
abbrev cX12_both : ByteArray := prog_14_method_33_code
def yX12_both : MethodName := ⟨RX12, "both", "()V"⟩
abbrev cX12_either : ByteArray := prog_14_method_34_code
def yX12_either : MethodName := ⟨RX12, "either", "()V"⟩
abbrev cX12_line : ByteArray := prog_14_method_35_code
def yX12_line : MethodName := ⟨RX12, "line", "()V"⟩
abbrev cX12_readText : ByteArray := prog_14_method_36_code
def yX12_readText : MethodName := ⟨RX12, "readText", "(I)I"⟩
abbrev cX12_twoOf : ByteArray := prog_14_method_37_code
def yX12_twoOf : MethodName := ⟨RX12, "twoOf", "(III)I"⟩
abbrev cX12_worked : ByteArray := prog_14_method_38_code
def yX12_worked : MethodName := ⟨RX12, "worked", "(III)I"⟩
abbrev cX12_gives : ByteArray := prog_14_method_39_code
def yX12_gives : MethodName := ⟨RX12, "gives", "(I)I"⟩
abbrev cX12_law : ByteArray := prog_14_method_40_code
def yX12_law : MethodName := ⟨RX12, "law", "()I"⟩
abbrev cX12_criesBy : ByteArray := prog_14_method_41_code
def yX12_criesBy : MethodName := ⟨RX12, "criesBy", "(IIIII)I"⟩
abbrev cX12_sinceWith : ByteArray := prog_14_method_42_code
def yX12_sinceWith : MethodName := ⟨RX12, "sinceWith", "(II)I"⟩
abbrev cX12_nextBy : ByteArray := prog_14_method_43_code
def yX12_nextBy : MethodName := ⟨RX12, "nextBy", "(II)I"⟩
abbrev cX12_cross : ByteArray := prog_14_method_44_code
def yX12_cross : MethodName := ⟨RX12, "cross", "(I)I"⟩
abbrev cX12_reader : ByteArray := prog_14_method_45_code
def yX12_reader : MethodName := ⟨RX12, "reader", "(I)I"⟩
abbrev cX12_rowFault : ByteArray := prog_14_method_46_code
def yX12_rowFault : MethodName := ⟨RX12, "rowFault", "(I)I"⟩
abbrev cX12_at : ByteArray := prog_14_method_47_code
def yX12_at : MethodName := ⟨RX12, "at", "(II)I"⟩
abbrev cX12_layAgenda : ByteArray := prog_14_method_48_code
def yX12_layAgenda : MethodName := ⟨RX12, "layAgenda", "(I)V"⟩
abbrev cX12_layWeights : ByteArray := prog_14_method_49_code
def yX12_layWeights : MethodName := ⟨RX12, "layWeights", "()V"⟩
abbrev cX12_goReading : ByteArray := prog_14_method_50_code
def yX12_goReading : MethodName := ⟨RX12, "goReading", "(IZ)V"⟩
abbrev cX12_lowest : ByteArray := prog_14_method_51_code
def yX12_lowest : MethodName := ⟨RX12, "lowest", "(JJI)J"⟩
abbrev cX12_mayAsk : ByteArray := prog_14_method_52_code
def yX12_mayAsk : MethodName := ⟨RX12, "mayAsk", "(II)Z"⟩
abbrev cX12_passes : ByteArray := prog_14_method_53_code
def yX12_passes : MethodName := ⟨RX12, "passes", "(III)J"⟩
abbrev cX12_firstOf : ByteArray := prog_14_method_54_code
def yX12_firstOf : MethodName := ⟨RX12, "firstOf", "(I)I"⟩
abbrev cX12_allWeight : ByteArray := prog_14_method_55_code
def yX12_allWeight : MethodName := ⟨RX12, "allWeight", "()J"⟩
abbrev cX12_quiet : ByteArray := prog_14_method_56_code
def yX12_quiet : MethodName := ⟨RX12, "quiet", "(IIII)J"⟩
abbrev cX12_goMean : ByteArray := prog_14_method_57_code
def yX12_goMean : MethodName := ⟨RX12, "goMean", "(I)V"⟩
abbrev cX12_mean : ByteArray := prog_14_method_58_code
def yX12_mean : MethodName := ⟨RX12, "mean", "(III)J"⟩
abbrev cX12_goOrder : ByteArray := prog_14_method_59_code
def yX12_goOrder : MethodName := ⟨RX12, "goOrder", "(III)V"⟩
abbrev cX12_mayOrder : ByteArray := prog_14_method_60_code
def yX12_mayOrder : MethodName := ⟨RX12, "mayOrder", "(II)Z"⟩
abbrev cX12_findOrder : ByteArray := prog_14_method_61_code
def yX12_findOrder : MethodName := ⟨RX12, "findOrder", "(II)V"⟩
abbrev cX12_order : ByteArray := prog_14_method_62_code
def yX12_order : MethodName := ⟨RX12, "order", "(III)I"⟩
abbrev cX12_orderWorth : ByteArray := prog_14_method_63_code
def yX12_orderWorth : MethodName := ⟨RX12, "orderWorth", "(III)J"⟩
abbrev cX12_lengthsOf : ByteArray := prog_14_method_64_code
def yX12_lengthsOf : MethodName := ⟨RX12, "lengthsOf", "(I)I"⟩
abbrev cX12_worthsOf : ByteArray := prog_14_method_65_code
def yX12_worthsOf : MethodName := ⟨RX12, "worthsOf", "(I)I"⟩
abbrev cX12_pack : ByteArray := prog_14_method_66_code
def yX12_pack : MethodName := ⟨RX12, "pack", "(II)I"⟩
abbrev cX12_isThree : ByteArray := prog_14_method_67_code
def yX12_isThree : MethodName := ⟨RX12, "isThree", "(II)Z"⟩
abbrev cX12_chanceBy : ByteArray := prog_14_method_68_code
def yX12_chanceBy : MethodName := ⟨RX12, "chanceBy", "(III)J"⟩
abbrev cX12_layChances : ByteArray := prog_14_method_69_code
def yX12_layChances : MethodName := ⟨RX12, "layChances", "(IZ)V"⟩
abbrev cX12_likeliest : ByteArray := prog_14_method_70_code
def yX12_likeliest : MethodName := ⟨RX12, "likeliest", "()I"⟩
abbrev cX12_causes : ByteArray := prog_14_method_71_code
def yX12_causes : MethodName := ⟨RX12, "causes", "(II)I"⟩
abbrev cX12_cause : ByteArray := prog_14_method_72_code
def yX12_cause : MethodName := ⟨RX12, "cause", "(III)J"⟩
abbrev cX12_differBy : ByteArray := prog_14_method_73_code
def yX12_differBy : MethodName := ⟨RX12, "differBy", "(III)I"⟩
abbrev cX12_apart : ByteArray := prog_14_method_74_code
def yX12_apart : MethodName := ⟨RX12, "apart", "(II)I"⟩
abbrev cX12_power : ByteArray := prog_14_method_75_code
def yX12_power : MethodName := ⟨RX12, "power", "(II)J"⟩
abbrev cX12_senatorsOf : ByteArray := prog_14_method_76_code
def yX12_senatorsOf : MethodName := ⟨RX12, "senatorsOf", "(I)I"⟩
abbrev cX12_leagues : ByteArray := prog_14_method_77_code
def yX12_leagues : MethodName := ⟨RX12, "leagues", "(I)I"⟩
abbrev cX12_windBy : ByteArray := prog_14_method_78_code
def yX12_windBy : MethodName := ⟨RX12, "windBy", "(II)I"⟩
abbrev cX12_bestOf : ByteArray := prog_14_method_79_code
def yX12_bestOf : MethodName := ⟨RX12, "bestOf", "(IIIZ)I"⟩
abbrev cX12_byTurns : ByteArray := prog_14_method_80_code
def yX12_byTurns : MethodName := ⟨RX12, "byTurns", "(III)I"⟩
abbrev cX12_drawn : ByteArray := prog_14_method_81_code
def yX12_drawn : MethodName := ⟨RX12, "drawn", "(IIII)I"⟩
abbrev cX12_read : ByteArray := prog_14_method_82_code
def yX12_read : MethodName := ⟨RX12, "read", "(I)I"⟩
abbrev cX12_fed : ByteArray := prog_14_method_83_code
def yX12_fed : MethodName := ⟨RX12, "fed", "()I"⟩
abbrev cX12_born : ByteArray := prog_14_method_84_code
def yX12_born : MethodName := ⟨RX12, "born", "(II)I"⟩
abbrev cX12_pass : ByteArray := prog_14_method_85_code
def yX12_pass : MethodName := ⟨RX12, "pass", "(I)I"⟩
abbrev cX12_led : ByteArray := prog_14_method_86_code
def yX12_led : MethodName := ⟨RX12, "led", "(I)I"⟩
abbrev cX12_image : ByteArray := prog_14_method_87_code
def yX12_image : MethodName := ⟨RX12, "image", "()I"⟩
abbrev cX12_back : ByteArray := prog_14_method_88_code
def yX12_back : MethodName := ⟨RX12, "back", "()I"⟩
abbrev cX12_isBody : ByteArray := prog_14_method_89_code
def yX12_isBody : MethodName := ⟨RX12, "isBody", "(I)Z"⟩
abbrev cX12_ran : ByteArray := prog_14_method_90_code
def yX12_ran : MethodName := ⟨RX12, "ran", "(I)V"⟩
abbrev cX12_trace : ByteArray := prog_14_method_91_code
def yX12_trace : MethodName := ⟨RX12, "trace", "(I)I"⟩
abbrev cX12_body : ByteArray := prog_14_method_92_code
def yX12_body : MethodName := ⟨RX12, "body", "(I)I"⟩
abbrev cX12_isUnder : ByteArray := prog_14_method_93_code
def yX12_isUnder : MethodName := ⟨RX12, "isUnder", "(II)Z"⟩
abbrev cX12_plainReads : ByteArray := prog_14_method_94_code
def yX12_plainReads : MethodName := ⟨RX12, "plainReads", "(II)I"⟩
abbrev cX12_twinReads : ByteArray := prog_14_method_95_code
def yX12_twinReads : MethodName := ⟨RX12, "twinReads", "(II)I"⟩
abbrev cX12_reading : ByteArray := prog_14_method_96_code
def yX12_reading : MethodName := ⟨RX12, "reading", "(II)I"⟩
abbrev cX12_plainCries : ByteArray := prog_14_method_97_code
def yX12_plainCries : MethodName := ⟨RX12, "plainCries", "(II)I"⟩
abbrev cX12_cryCries : ByteArray := prog_14_method_98_code
def yX12_cryCries : MethodName := ⟨RX12, "cryCries", "(II)I"⟩
abbrev cX12_crying : ByteArray := prog_14_method_99_code
def yX12_crying : MethodName := ⟨RX12, "crying", "(II)I"⟩
abbrev cX12_plainHushes : ByteArray := prog_14_method_100_code
def yX12_plainHushes : MethodName := ⟨RX12, "plainHushes", "(II)I"⟩
abbrev cX12_nurseHushes : ByteArray := prog_14_method_101_code
def yX12_nurseHushes : MethodName := ⟨RX12, "nurseHushes", "(II)I"⟩
abbrev cX12_hushing : ByteArray := prog_14_method_102_code
def yX12_hushing : MethodName := ⟨RX12, "hushing", "(II)I"⟩
abbrev cX12_plainTells : ByteArray := prog_14_method_103_code
def yX12_plainTells : MethodName := ⟨RX12, "plainTells", "(II)I"⟩
abbrev cX12_telling : ByteArray := prog_14_method_104_code
def yX12_telling : MethodName := ⟨RX12, "telling", "(II)I"⟩
abbrev cX12_act : ByteArray := prog_14_method_105_code
def yX12_act : MethodName := ⟨RX12, "act", "(III)I"⟩
abbrev cX12_count : ByteArray := prog_14_method_106_code
def yX12_count : MethodName := ⟨RX12, "count", "(I)I"⟩
abbrev cX12_isShelf : ByteArray := prog_14_method_107_code
def yX12_isShelf : MethodName := ⟨RX12, "isShelf", "(I)Z"⟩
abbrev cX12_keep : ByteArray := prog_14_method_108_code
def yX12_keep : MethodName := ⟨RX12, "keep", "(II)I"⟩
abbrev cX12_row : ByteArray := prog_14_method_109_code
def yX12_row : MethodName := ⟨RX12, "row", "(III)I"⟩
abbrev cX12_whyNoPlace : ByteArray := prog_14_method_110_code
def yX12_whyNoPlace : MethodName := ⟨RX12, "whyNoPlace", "(II)I"⟩
abbrev cX12_put : ByteArray := prog_14_method_111_code
def yX12_put : MethodName := ⟨RX12, "put", "(IIJ)I"⟩
abbrev cX12_element : ByteArray := prog_14_method_112_code
def yX12_element : MethodName := ⟨RX12, "element", "(II)J"⟩
abbrev cX12_shift : ByteArray := prog_14_method_113_code
def yX12_shift : MethodName := ⟨RX12, "shift", "(IIIII)I"⟩
abbrev cX12_taken : ByteArray := prog_14_method_114_code
def yX12_taken : MethodName := ⟨RX12, "taken", "(II)I"⟩
def RJ6 : String := "java/lang/Integer"
def TJ6 : u_T := fun k => match k with
  | _ => ("", "", "", false)
def tyJ6 : Nat → FieldType := fun k => match k with
  | _ => .int
abbrev wsJ60 : List Cond := u_ws RJ6 TJ6 0
theorem nmJ6 : ∀ a, a < 0 → ∀ b, b < 0 → a ≠ b → (TJ6 a).2.1 ≠ (TJ6 b).2.1 := by decide +kernel
theorem tyJ6_ok : ∀ k, k < 0 → parseFieldDescriptor (TJ6 k).2.2.1 = some (tyJ6 k) := by decide +kernel
abbrev cJ6_bitCount_0f7a4 : ByteArray := prog_15_method_49_code
def yJ6_bitCount_0f7a4 : MethodName := ⟨RJ6, "bitCount", "(I)I"⟩
def RJ9 : String := "java/lang/Math"
def TJ9 : u_T := fun k => match k with
  | _ => ("", "", "", false)
def tyJ9 : Nat → FieldType := fun k => match k with
  | _ => .int
abbrev wsJ90 : List Cond := u_ws RJ9 TJ9 0
theorem nmJ9 : ∀ a, a < 0 → ∀ b, b < 0 → a ≠ b → (TJ9 a).2.1 ≠ (TJ9 b).2.1 := by decide +kernel
theorem tyJ9_ok : ∀ k, k < 0 → parseFieldDescriptor (TJ9 k).2.2.1 = some (tyJ9 k) := by decide +kernel
abbrev cJ9_abs_0f7a4 : ByteArray := prog_16_method_59_code
def yJ9_abs_0f7a4 : MethodName := ⟨RJ9, "abs", "(I)I"⟩
abbrev cJ9_max_7cf53 : ByteArray := prog_16_method_65_code
def yJ9_max_7cf53 : MethodName := ⟨RJ9, "max", "(II)I"⟩
abbrev cJ9_max_f86c9 : ByteArray := prog_16_method_66_code
def yJ9_max_f86c9 : MethodName := ⟨RJ9, "max", "(JJ)J"⟩
abbrev cJ9_min_7cf53 : ByteArray := prog_16_method_69_code
def yJ9_min_7cf53 : MethodName := ⟨RJ9, "min", "(II)I"⟩
def RJ10 : String := "java/lang/System"
def TJ10 : u_T := fun k => match k with
  | _ => ("", "", "", false)
def tyJ10 : Nat → FieldType := fun k => match k with
  | _ => .int
abbrev wsJ100 : List Cond := u_ws RJ10 TJ10 0
theorem nmJ10 : ∀ a, a < 0 → ∀ b, b < 0 → a ≠ b → (TJ10 a).2.1 ≠ (TJ10 b).2.1 := by decide +kernel
theorem tyJ10_ok : ∀ k, k < 0 → parseFieldDescriptor (TJ10 k).2.2.1 = some (tyJ10 k) := by decide +kernel
def RJ7 : String := "java/util/Arrays"
def TJ7 : u_T := fun k => match k with
  | _ => ("", "", "", false)
def tyJ7 : Nat → FieldType := fun k => match k with
  | _ => .int
abbrev wsJ70 : List Cond := u_ws RJ7 TJ7 0
theorem nmJ7 : ∀ a, a < 0 → ∀ b, b < 0 → a ≠ b → (TJ7 a).2.1 ≠ (TJ7 b).2.1 := by decide +kernel
theorem tyJ7_ok : ∀ k, k < 0 → parseFieldDescriptor (TJ7 k).2.2.1 = some (tyJ7 k) := by decide +kernel
abbrev cJ7_fill_d0a16 : ByteArray := prog_18_method_101_code
def yJ7_fill_d0a16 : MethodName := ⟨RJ7, "fill", "([JJ)V"⟩
def RL : String := "CradleVetoLaw"
abbrev cL_law : ByteArray := code
def yL_law : MethodName := ⟨RL, "law", "([I)Z"⟩
abbrev vwCl : List vw_C := [(RX0, TX0, 5), (RX1, TX1, 2), (RX2, TX2, 7), (RX3, TX3, 6), (RX4, TX4, 5), (RX5, TX5, 4), (RX6, TX6, 4), (RX7, TX7, 5), (RX8, TX8, 6), (RX9, TX9, 5), (RX10, TX10, 5), (RX11, TX11, 10), (RX12, TX12, 53)]
