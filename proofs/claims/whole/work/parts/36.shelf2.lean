/-! ===== shelves: all of the class's Shelf; frames ===== -/
theorem lgc_0 (v : Int64) : lg_cmp v 0 = 0 ↔ v = 0 := by
  unfold lg_cmp
  grind
section
variable {I : xI} {J : xJ} {a e : Nat}
def f_hasP (I : xI) (a : Nat) (i n : Int32) : Int32 := if I a 1 = 2 ∧ ¬ i < 0 ∧ ¬ n < 0 ∧ ¬ I a 4 < i ∧ ¬ I a 4 - i < n then 1 else 0
theorem s_X9_hasPlaces (i n : Int32) (hx : xSh a e) : SpecF 1 M_X9_hasPlaces [.ref a, .int i, .int n] xG1 I J (some (.int (f_hasP I a i n))) I J := by
  refine specF_of (L := [some (.ref a), some (.int i), some (.int n)]) (by decide) (Nat.le_of_ble_eq_true rfl) rfl ?_
  refine iX9_hasPlaces_0 (iX9_hasPlaces_1 (hx).1 (s_X9_isRow hx) (iX9_hasPlaces_4 (fun h4 => ?_) (fun h4 => ?_)))
  · refine iX9_hasPlaces_37 (iX9_hasPlaces_38 ?_)
    exact ⟨congrArg (fun z => some (Value.int z)) (by unfold f_hasP; grind), rfl, rfl, rfl⟩
  · refine iX9_hasPlaces_7 (iX9_hasPlaces_8 (fun h8 => ?_) (fun h8 => ?_))
    · refine iX9_hasPlaces_37 (iX9_hasPlaces_38 ?_)
      exact ⟨congrArg (fun z => some (Value.int z)) (by unfold f_hasP; grind), rfl, rfl, rfl⟩
    · refine iX9_hasPlaces_11 (iX9_hasPlaces_12 (fun h12 => ?_) (fun h12 => ?_))
      · refine iX9_hasPlaces_37 (iX9_hasPlaces_38 ?_)
        exact ⟨congrArg (fun z => some (Value.int z)) (by unfold f_hasP; grind), rfl, rfl, rfl⟩
      · refine iX9_hasPlaces_15 (iX9_hasPlaces_16 (iX9_hasPlaces_17 (hx).1 (iX9_hasPlaces_20 (fun h20 => ?_) (fun h20 => ?_))))
        · refine iX9_hasPlaces_37 (iX9_hasPlaces_38 ?_)
          exact ⟨congrArg (fun z => some (Value.int z)) (by unfold f_hasP; grind), rfl, rfl, rfl⟩
        · refine iX9_hasPlaces_23 (iX9_hasPlaces_24 (iX9_hasPlaces_25 (hx).1 (iX9_hasPlaces_28 (iX9_hasPlaces_29 (iX9_hasPlaces_30 (fun h30 => ?_) (fun h30 => ?_))))))
          · refine iX9_hasPlaces_37 (iX9_hasPlaces_38 ?_)
            exact ⟨congrArg (fun z => some (Value.int z)) (by unfold f_hasP; grind), rfl, rfl, rfl⟩
          · refine iX9_hasPlaces_33 (iX9_hasPlaces_34 (iX9_hasPlaces_38 ?_))
            exact ⟨congrArg (fun z => some (Value.int z)) (by unfold f_hasP; grind), rfl, rfl, rfl⟩
theorem s_X9_heldBody (hx : xSh a e) : SpecF 0 M_X9_heldBody [.ref a] xG1 I J (some (.int (if I a 1 = 1 then I a 2 else -1))) I J := by
  refine specF_of (L := [some (.ref a)]) (by decide) (Nat.le_of_ble_eq_true rfl) rfl ?_
  refine iX9_heldBody_0 (iX9_heldBody_1 (hx).1 (iX9_heldBody_4 (iX9_heldBody_5 (fun h5 => ?_) (fun h5 => ?_))))
  · refine iX9_heldBody_15 (iX9_heldBody_16 ?_)
    exact ⟨by simp [*], rfl, rfl, rfl⟩
  · refine iX9_heldBody_8 (iX9_heldBody_9 (hx).1 (iX9_heldBody_12 (iX9_heldBody_16 ?_)))
    exact ⟨by simp [*], rfl, rfl, rfl⟩
theorem s_X9_clear (hx : xSh a e) : SpecF 0 M_X9_clear [.ref a] xG1 I J none (xu I a 1 0) J := by
  refine specF_of (L := [some (.ref a)]) (by decide) (Nat.le_of_ble_eq_true rfl) rfl ?_
  refine iX9_clear_0 (iX9_clear_1 (iX9_clear_2 (hx).1 (iX9_clear_5 ?_)))
  exact ⟨rfl, rfl, rfl, rfl⟩
theorem s_X9_holdBody (v : Int32) (hx : xSh a e) : SpecF 0 M_X9_holdBody [.ref a, .int v] xG1 I J none (xu (xu I a 1 1) a 2 v) J := by
  refine specF_of (L := [some (.ref a), some (.int v)]) (by decide) (Nat.le_of_ble_eq_true rfl) rfl ?_
  refine iX9_holdBody_0 (iX9_holdBody_1 (iX9_holdBody_2 (hx).1 (iX9_holdBody_5 (iX9_holdBody_6 (iX9_holdBody_7 (hx).1 (iX9_holdBody_10 ?_))))))
  exact ⟨rfl, rfl, rfl, rfl⟩
theorem s_X9_holdRow (s n : Int32) (hx : xSh a e) (h0 : 0 ≤ n) (h1 : n ≤ 60) : SpecF 1 M_X9_holdRow [.ref a, .int s, .int n] xG1 I J none (xu (xu (xu I a 1 2) a 3 s) a 4 n) (xf J e 60 0) := by
  refine specF_of (L := [some (.ref a), some (.int s), some (.int n)]) (by decide) (Nat.le_of_ble_eq_true rfl) rfl ?_
  have e1 : f_max 0 (f_min 60 n) = n := by unfold f_max f_min; grind
  refine iX9_holdRow_0 (iX9_holdRow_1 (iX9_holdRow_2 (hx).1 (iX9_holdRow_5 (iX9_holdRow_6 (iX9_holdRow_7 (hx).1 (iX9_holdRow_10 (iX9_holdRow_11 (iX9_holdRow_12 (iX9_holdRow_14 (iX9_holdRow_15 (s_J9_min _ _) (iX9_holdRow_18 (s_J9_max _ _) (iX9_holdRow_21 (hx).1 (iX9_holdRow_24 (iX9_holdRow_25 (hx).1 (hx).2.1 (iX9_holdRow_28 (iX9_holdRow_29 (s_fill e 60 0 hx.2.2 (by decide)) (iX9_holdRow_32 ?_)))))))))))))))))
  exact ⟨rfl, rfl, by rw [e1], rfl⟩
def f_cut (I : xI) (a : Nat) (v : Int64) : Int64 := if I a 3 = 0 then v.toInt32.toInt8.toInt32.toInt64 else if I a 3 = 1 then v.toInt32.toInt16.toInt32.toInt64 else if I a 3 = 2 then v.toInt32.toInt64 else if I a 3 = 3 then v else if v = 0 then 0 else 1
theorem s_X9_cut (v : Int64) (hx : xSh a e) : SpecF 0 M_X9_cut [.ref a, .long v] xG1 I J (some (.long (f_cut I a v))) I J := by
  refine specF_of (L := [some (.ref a), some (.long v), none]) (by decide) (Nat.le_of_ble_eq_true rfl) rfl ?_
  refine iX9_cut_0 (iX9_cut_1 (hx).1 (iX9_cut_4 (fun h4 => ?_) (fun h4 => ?_) (fun h4 => ?_) (fun h4 => ?_) (fun h4_0 h4_1 h4_2 h4_3 => ?_)))
  · refine iX9_cut_36 (iX9_cut_37 (iX9_cut_38 (iX9_cut_39 (iX9_cut_40 ?_))))
    exact ⟨congrArg (fun z => some (Value.long z)) (by simp [f_cut, *, ← lgc_0]), rfl, rfl, rfl⟩
  · refine iX9_cut_41 (iX9_cut_42 (iX9_cut_43 (iX9_cut_44 (iX9_cut_45 ?_))))
    exact ⟨congrArg (fun z => some (Value.long z)) (by simp [f_cut, *, ← lgc_0]), rfl, rfl, rfl⟩
  · refine iX9_cut_46 (iX9_cut_47 (iX9_cut_48 (iX9_cut_49 ?_)))
    exact ⟨congrArg (fun z => some (Value.long z)) (by simp [f_cut, *, ← lgc_0]), rfl, rfl, rfl⟩
  · refine iX9_cut_50 (iX9_cut_51 ?_)
    exact ⟨congrArg (fun z => some (Value.long z)) (by simp [f_cut, *, ← lgc_0]), rfl, rfl, rfl⟩
  · refine iX9_cut_52 (iX9_cut_53 (iX9_cut_54 (iX9_cut_55 (fun h55 => ?_) (fun h55 => ?_))))
    · refine iX9_cut_62 (iX9_cut_63 ?_)
      exact ⟨congrArg (fun z => some (Value.long z)) (by simp [f_cut, *, ← lgc_0]), rfl, rfl, rfl⟩
    · refine iX9_cut_58 (iX9_cut_59 (iX9_cut_63 ?_))
      exact ⟨congrArg (fun z => some (Value.long z)) (by simp [f_cut, *, ← lgc_0]), rfl, rfl, rfl⟩
theorem f_hasP_1 {i : Int32} (h : f_hasP I a i 1 = 1) (h4 : I a 4 ≤ 60) : ¬ i < 0 ∧ i < 60 ∧ i < I a 4 ∧ I a 1 = 2 := by
  unfold f_hasP at h
  grind
theorem f_hasP_01 {i n : Int32} : f_hasP I a i n = 0 ∨ f_hasP I a i n = 1 := by
  unfold f_hasP
  grind
theorem f_hasP_iff {i : Int32} (h : I a 1 = 2) (h4 : 0 ≤ I a 4) : f_hasP I a i 1 = if 0 ≤ i ∧ i < I a 4 then 1 else 0 := by
  unfold f_hasP
  grind
theorem s_X9_set (i : Int32) (v : Int64) (hx : xSh a e) (h : f_hasP I a i 1 = 1) (h4 : I a 4 ≤ 60) : SpecF 2 M_X9_set [.ref a, .int i, .long v] xG1 I J none I (xu J e i.toNatClampNeg (f_cut I a v)) := by
  have h5 := f_hasP_1 h h4
  refine specF_of (L := [some (.ref a), some (.int i), some (.long v), none]) (by decide) (Nat.le_of_ble_eq_true rfl) rfl ?_
  refine iX9_set_0 (iX9_set_1 (iX9_set_2 (iX9_set_3 (hx).1 (s_X9_hasPlaces _ _ hx) (iX9_set_6 (fun h6 => absurd h6 (by rw [h]; decide)) (fun h6 => ?_)))))
  refine iX9_set_9 (iX9_set_10 (hx).1 (hx).2.1 (iX9_set_13 (iX9_set_14 (iX9_set_15 (iX9_set_16 (hx).1 (s_X9_cut _ hx) (iX9_set_19 (hx).2.2 (vin 60 (by decide) h5.1 h5.2.1) (iX9_set_20 ?_)))))))
  exact ⟨rfl, rfl, rfl, rfl⟩
theorem s_X9_get (i : Int32) (hx : xSh a e) (h : f_hasP I a i 1 = 1) (h4 : I a 4 ≤ 60) : SpecF 2 M_X9_get [.ref a, .int i] xG1 I J (some (.long (J e i.toNatClampNeg))) I J := by
  have h5 := f_hasP_1 h h4
  refine specF_of (L := [some (.ref a), some (.int i)]) (by decide) (Nat.le_of_ble_eq_true rfl) rfl ?_
  refine iX9_get_0 (iX9_get_1 (iX9_get_2 (iX9_get_3 (hx).1 (s_X9_hasPlaces _ _ hx) (iX9_get_6 (fun h6 => absurd h6 (by rw [h]; decide)) (fun h6 => ?_)))))
  refine iX9_get_9 (iX9_get_10 (hx).1 (hx).2.1 (iX9_get_13 (iX9_get_14 (hx).2.2 (vin 60 (by decide) h5.1 h5.2.1) (iX9_get_15 (iX9_get_21 ?_)))))
  exact ⟨rfl, rfl, rfl, rfl⟩
def f_byte (I : xI) (J : xJ) (a e : Nat) (i : Int32) : Int32 := if I a 3 = 0 ∧ f_hasP I a i 1 = 1 then (J e i.toNatClampNeg).toInt32 else -1
theorem s_X9_byteAt (i : Int32) (hx : xSh a e) (hL : I a 1 = 2 → I a 4 ≤ 60) : SpecF 2 M_X9_byteAt [.ref a, .int i] xG1 I J (some (.int (f_byte I J a e i))) I J := by
  refine specF_of (L := [some (.ref a), some (.int i)]) (by decide) (Nat.le_of_ble_eq_true rfl) rfl ?_
  refine iX9_byteAt_0 (iX9_byteAt_1 (hx).1 (iX9_byteAt_4 (fun h4 => ?_) (fun h4 => ?_)))
  · refine iX9_byteAt_26 (iX9_byteAt_27 ?_)
    exact ⟨congrArg (fun z => some (Value.int z)) (by unfold f_byte; grind), rfl, rfl, rfl⟩
  · refine iX9_byteAt_7 (iX9_byteAt_8 (iX9_byteAt_9 (iX9_byteAt_10 (hx).1 (s_X9_hasPlaces _ _ hx) (iX9_byteAt_13 (fun h13 => ?_) (fun h13 => ?_)))))
    · refine iX9_byteAt_26 (iX9_byteAt_27 ?_)
      exact ⟨congrArg (fun z => some (Value.int z)) (by unfold f_byte; grind), rfl, rfl, rfl⟩
    · have h7 : f_hasP I a i 1 = 1 := by have := f_hasP_01 (I := I) (a := a) (i := i) (n := 1); grind
      have h6 : I a 1 = 2 := by unfold f_hasP at h7; grind
      have h5 := f_hasP_1 h7 (hL h6)
      refine iX9_byteAt_16 (iX9_byteAt_17 (hx).1 (hx).2.1 (iX9_byteAt_20 (iX9_byteAt_21 (hx).2.2 (vin 60 (by decide) h5.1 h5.2.1) (iX9_byteAt_22 (iX9_byteAt_23 (iX9_byteAt_27 ?_))))))
      exact ⟨congrArg (fun z => some (Value.int z)) (by unfold f_byte; grind), rfl, rfl, rfl⟩
theorem f_hasP_n {i n : Int32} (h : f_hasP I a i n = 1) (h4 : I a 4 ≤ 60) : ∃ i' n' : Nat, i' ≤ 60 ∧ n' ≤ 60 ∧ i = nI i' ∧ n = nI n' ∧ i' + n' ≤ 60 := by
  have q : ¬ i < 0 ∧ ¬ n < 0 ∧ ¬ I a 4 < i ∧ ¬ I a 4 - i < n := by unfold f_hasP at h; grind
  obtain ⟨l, hl, e⟩ := nI_of2 (x := I a 4) (M := 60) (n := 60) (by decide) (by grind) h4
  rw [e] at q
  obtain ⟨i', hi1, rfl⟩ := nI_of2 (x := i) (M := 60) (n := 60) (by decide) q.1 (by grind)
  have q3 : i' ≤ l := Nat.not_lt.mp fun w => q.2.2.1 (nI_lt w (by omega))
  rw [pk_sub q3] at q
  obtain ⟨n', hn1, rfl⟩ := nI_of q.2.1
  have q4 : n' ≤ l - i' := Nat.not_lt.mp fun w => q.2.2.2 (nI_lt w (by omega))
  exact ⟨i', n', hi1, by omega, rfl, rfl, by omega⟩
theorem s_X9_copy {c e' : Nat} (i j n : Int32) (hx : xSh a e) (hy : xSh c e') (h : f_hasP I c i n = 1) (h' : f_hasP I a j n = 1) (h4 : I c 4 ≤ 60) (h4' : I a 4 ≤ 60) : SpecF 2 M_X9_copy [.ref a, .ref c, .int i, .int j, .int n] xG1 I J none I (xcp J e' e i.toNatClampNeg j.toNatClampNeg n.toNatClampNeg) := by
  have q1 := f_hasP_n h h4
  have q2 := f_hasP_n h' h4'
  obtain ⟨i', n', hi1, hn1, rfl, rfl, r1⟩ := q1
  obtain ⟨j', n2, hj1, hn2, rfl, e2, r2⟩ := q2
  obtain rfl := (nI_eq (by omega) (by omega)).mp e2
  refine specF_of (L := [some (.ref a), some (.ref c), some (.int (nI i')), some (.int (nI j')), some (.int (nI n'))]) (by decide) (Nat.le_of_ble_eq_true rfl) rfl ?_
  have hci : (nI i').toNatClampNeg = i' := nI_clamp (by omega)
  have hcj : (nI j').toNatClampNeg = j' := nI_clamp (by omega)
  have hcn : (nI n').toNatClampNeg = n' := nI_clamp (by omega)
  refine iX9_copy_0 (iX9_copy_1 (iX9_copy_2 (iX9_copy_4 hy.1 (s_X9_hasPlaces _ _ hy) (iX9_copy_7 (fun h7 => absurd h7 (by rw [h]; decide)) (fun h7 => ?_)))))
  refine iX9_copy_10 (iX9_copy_11 (iX9_copy_12 (iX9_copy_14 hx.1 (s_X9_hasPlaces _ _ hx) (iX9_copy_17 (fun h17 => absurd h17 (by rw [h']; decide)) (fun h17 => ?_)))))
  refine iX9_copy_20 (iX9_copy_21 hy.1 hy.2.1 (iX9_copy_24 (iX9_copy_25 (iX9_copy_26 hx.1 hx.2.1 (iX9_copy_29 (iX9_copy_30 (iX9_copy_32 hy.2.2 hx.2.2 (nI_pos (by omega)) (nI_pos (by omega)) (nI_pos (by omega)) (by rw [hci, hcn]; omega) (by rw [hcj, hcn]; omega) (iX9_copy_35 ?_))))))))
  exact ⟨rfl, rfl, rfl, rfl⟩
def f_has3 (I : xI) (b : Int32) : Int32 := if 0 ≤ b ∧ b < I 41 2 then 1 else 0
theorem s_X3_has (b : Int32) : SpecF 0 M_X3_has [.ref 41, .int b] xG1 I J (some (.int (f_has3 I b))) I J := by
  refine specF_of (L := [some (.ref 41), some (.int b)]) (by decide) (Nat.le_of_ble_eq_true rfl) rfl ?_
  refine iX3_has_0 (iX3_has_1 (fun h1 => ?_) (fun h1 => ?_))
  · refine iX3_has_16 (iX3_has_17 ?_)
    exact ⟨congrArg (fun z => some (Value.int z)) (by unfold f_has3; grind), rfl, rfl, rfl⟩
  · refine iX3_has_4 (iX3_has_5 (iX3_has_6 (iX3_has_9 (fun h9 => ?_) (fun h9 => ?_))))
    · refine iX3_has_16 (iX3_has_17 ?_)
      exact ⟨congrArg (fun z => some (Value.int z)) (by unfold f_has3; grind), rfl, rfl, rfl⟩
    · refine iX3_has_12 (iX3_has_13 (iX3_has_17 ?_))
      exact ⟨congrArg (fun z => some (Value.int z)) (by unfold f_has3; grind), rfl, rfl, rfl⟩
theorem s_X3_kindOf (b : Int32) (h : I 41 2 ≤ 50) : SpecF 1 M_X3_kindOf [.ref 41, .int b] xG1 I J (some (.int (if f_has3 I b = 1 then I 42 b.toNatClampNeg else -1))) I J := by
  refine specF_of (L := [some (.ref 41), some (.int b)]) (by decide) (Nat.le_of_ble_eq_true rfl) rfl ?_
  refine iX3_kindOf_0 (iX3_kindOf_1 (iX3_kindOf_2 (s_X3_has _) (iX3_kindOf_5 (fun h5 => ?_) (fun h5 => ?_))))
  · refine iX3_kindOf_17 (iX3_kindOf_18 ?_)
    exact ⟨by simp [*], rfl, rfl, rfl⟩
  · have h9 : f_has3 I b = 1 ∧ 0 ≤ b ∧ b < 50 := by unfold f_has3 at *; grind
    refine iX3_kindOf_8 (iX3_kindOf_9 (iX3_kindOf_12 (iX3_kindOf_13 (vin 50 (by decide) (by grind) h9.2.2) (iX3_kindOf_14 (iX3_kindOf_18 ?_)))))
    exact ⟨by simp [*], rfl, rfl, rfl⟩
/-- where Inv, its shelves aside, looks -/
def sup (a b : Nat) : Bool := [7, 8, 9, 10, 11, 12, 13, 14, 15, 16, 18, 21, 22, 23, 24, 3, 38, 39, 40, 42, 43, 58, 59, 60, 61, 62, 63, 64, 65, 66, 67, 68, 69, 70, 71, 73, 74, 82, 83, 84, 85, 86].contains a || (a == 57 && [1, 6, 10, 11, 17, 29, 42, 45, 47].contains b) || (a == 1 && [2, 3].contains b) || (a == 2 && b == 3) || (a == 17 && b == 2) || (a == 20 && [5, 6].contains b) || (a == 37 && b == 4) || (a == 41 && [2, 3].contains b) || (a == 72 && b == 0)
theorem inv_frame {I I' : xI} {J J' : xJ} (h : Inv I J) (f : ∀ a b, sup a b = true → I' a b = I a b) (hs : ivSh I' J') : Inv I' J' := by
  obtain ⟨hh, hb, hse, hin, hch, hta, hle, him, hcl, hsh, hlw⟩ := h
  have row : ∀ a, (∀ b, sup a b = true) → I' a = I a := fun a q => funext fun b => f a b (q b)
  have p1 := f 57 1 rfl; have p2 := f 57 6 rfl; have p3 := f 57 10 rfl; have p4 := f 57 11 rfl; have p5 := f 57 17 rfl; have p6 := f 57 29 rfl; have p7 := f 57 42 rfl; have p8 := f 57 45 rfl; have p9 := f 57 47 rfl
  have p10 := f 1 2 rfl; have p11 := f 1 3 rfl; have p12 := f 2 3 rfl; have p13 := f 17 2 rfl; have p14 := f 20 5 rfl; have p15 := f 20 6 rfl; have p16 := f 37 4 rfl; have p17 := f 41 2 rfl; have p18 := f 41 3 rfl; have p19 := f 72 0 rfl
  refine ⟨?_, ?_, ?_, ?_, ?_, ?_, ?_, ?_, ?_, hs, ?_⟩
  · unfold ivHouse at hh ⊢; rw [p1, p2, p10, p11]; exact hh
  · unfold ivBills at hb ⊢; rw [row 58 (fun _ => rfl), row 59 (fun _ => rfl), row 60 (fun _ => rfl), row 61 (fun _ => rfl), row 7 (fun _ => rfl), row 8 (fun _ => rfl), row 9 (fun _ => rfl), row 10 (fun _ => rfl)]; exact hb
  · unfold ivSens at hse ⊢; rw [row 62 (fun _ => rfl), row 63 (fun _ => rfl), row 11 (fun _ => rfl), row 12 (fun _ => rfl)]; exact hse
  · unfold ivInf at hin ⊢; rw [row 64 (fun _ => rfl), row 13 (fun _ => rfl), row 14 (fun _ => rfl), row 15 (fun _ => rfl), row 16 (fun _ => rfl)]; exact hin
  · have e1 : ∀ n w, f_has I' n w = f_has I n w := fun n w => by unfold f_has; rw [p10, p11]
    unfold ivChg chOk at hch ⊢
    simp only [e1]
    rw [p3, p4, p14, p15, row 65 (fun _ => rfl), row 66 (fun _ => rfl), row 67 (fun _ => rfl), row 68 (fun _ => rfl), row 21 (fun _ => rfl), row 22 (fun _ => rfl), row 23 (fun _ => rfl), row 24 (fun _ => rfl)]
    exact hch
  · unfold ivTape at hta ⊢; rw [p5, p13, row 18 (fun _ => rfl), row 69 (fun _ => rfl)]; exact hta
  · unfold ivLed at hle ⊢; rw [row 82 (fun _ => rfl), row 38 (fun _ => rfl)]; exact hle
  · unfold ivImg at him ⊢; rw [p7, p16, row 83 (fun _ => rfl), row 84 (fun _ => rfl), row 39 (fun _ => rfl), row 40 (fun _ => rfl)]; exact him
  · unfold ivCl at hcl ⊢; rw [p8, p9, p17, p18, row 85 (fun _ => rfl), row 86 (fun _ => rfl), row 42 (fun _ => rfl), row 43 (fun _ => rfl)]; exact hcl
  · exact ivLaw_frame hlw ⟨p12, row 3 (fun _ => rfl), p6, row 70 (fun _ => rfl), row 71 (fun _ => rfl), p19, row 73 (fun _ => rfl), row 74 (fun _ => rfl)⟩
/-- one shelf becomes another -/
theorem ivSh_upd {I I' : xI} {J J' : xJ} (h : ivSh I J) (k : Nat) (e : I' 41 2 = I 41 2) (f : ∀ s : Nat, s < 6 → s ≠ k → I' (45 + 2 * s) = I (45 + 2 * s) ∧ J' (46 + 2 * s) = J (46 + 2 * s) ∧ I' 87 s = I 87 s ∧ I' 88 s = I 88 s ∧ ∀ j : Nat, j < 60 → J' 89 (60 * s + j) = J 89 (60 * s + j)) (hk : shRel I' J' (45 + 2 * k) (46 + 2 * k) k) : ivSh I' J' := by
  intro s hs
  by_cases q : s = k
  · subst q; exact hk
  have := h s hs
  obtain ⟨f1, f2, f3, f4, f5⟩ := f s hs q
  unfold shRel at this ⊢
  rw [f1, f2, f3, f4, e]
  rcases this with a | a | a
  · exact Or.inl a
  · exact Or.inr (Or.inl a)
  · refine Or.inr (Or.inr ⟨a.1, a.2.1, a.2.2.1, a.2.2.2.1, a.2.2.2.2.1, a.2.2.2.2.2.1, a.2.2.2.2.2.2.1, fun j hj => ?_⟩)
    rw [f5 j hj]
    exact a.2.2.2.2.2.2.2 j hj
end
