/-! ===== House: bills and senators come; shelves ===== -/
def g_addBill (I : xI) (l s w : Int32) : xI := xu (xu (xu (xu I 7 (I 1 2).toNatClampNeg l) 8 (I 1 2).toNatClampNeg s) 10 (I 1 2).toNatClampNeg w) 1 2 (I 1 2 + 1)
theorem s_X5_addBill_full {I : xI} {J : xJ} (l s w : Int32) (h : 10 ≤ I 1 2) : SpecF 0 M_X5_addBill [.ref 1, .int l, .int s, .int w] xG1 I J (some (.int (-3))) I J := by
  refine specF_of (L := [some (.ref 1), some (.int l), some (.int s), some (.int w)]) (by decide) (Nat.le_of_ble_eq_true rfl) rfl ?_
  refine iX5_addBill_0 (iX5_addBill_1 (iX5_addBill_4 (iX5_addBill_6 (fun h6 => ?_) (fun h6 => ?_))))
  · exfalso
    grind
  · refine iX5_addBill_9 (iX5_addBill_11 ?_)
    exact ⟨rfl, rfl, rfl, rfl⟩
theorem s_X5_addBill_ok {I : xI} {J : xJ} (l s w : Int32) (hB : ¬ I 1 2 < 0) (h : I 1 2 < 10) : SpecF 0 M_X5_addBill [.ref 1, .int l, .int s, .int w] xG1 I J (some (.int (I 1 2))) (g_addBill I l s w) J := by
  refine specF_of (L := [some (.ref 1), some (.int l), some (.int s), some (.int w)]) (by decide) (Nat.le_of_ble_eq_true rfl) rfl ?_
  have hv : vp_in (I 1 2) 10 := vin 10 (by decide) hB h
  refine iX5_addBill_0 (iX5_addBill_1 (iX5_addBill_4 (iX5_addBill_6 (fun h6 => ?_) (fun h6 => absurd (h) (by first | exact h6 | exact fun q => q h6)))))
  refine iX5_addBill_12 (iX5_addBill_13 (iX5_addBill_16 (iX5_addBill_17 (vin 10 (by decide) (by decide) (by decide)) (num_at (k := 0) (by decide)).1 (iX5_addBill_18 (iX5_addBill_19 (iX5_addBill_22 (iX5_addBill_23 (num_at (k := 0) (by decide)).2 hv (iX5_addBill_24 (iX5_addBill_25 (iX5_addBill_28 (iX5_addBill_29 (vin 10 (by decide) (by decide) (by decide)) (num_at (k := 1) (by decide)).1 (iX5_addBill_30 (iX5_addBill_31 (iX5_addBill_34 (iX5_addBill_35 (num_at (k := 1) (by decide)).2 hv (iX5_addBill_36 (iX5_addBill_37 (iX5_addBill_40 (iX5_addBill_41 (vin 10 (by decide) (by decide) (by decide)) (num_at (k := 3) (by decide)).1 (iX5_addBill_42 (iX5_addBill_43 (iX5_addBill_46 (iX5_addBill_47 (num_at (k := 3) (by decide)).2 hv (iX5_addBill_48 (iX5_addBill_49 (iX5_addBill_50 (iX5_addBill_53 (iX5_addBill_54 (iX5_addBill_55 (iX5_addBill_56 (iX5_addBill_59 ?_)))))))))))))))))))))))))))))))
  exact ⟨by simp [xu], rfl, by simp [g_addBill, xu], rfl⟩
def g_addSenator (I : xI) (r p : Int32) : xI := xu (xu (xu I 11 (I 1 3).toNatClampNeg r) 12 (I 1 3).toNatClampNeg p) 1 3 (I 1 3 + 1)
theorem s_X5_addSenator_full {I : xI} {J : xJ} (r p : Int32) (h : 6 ≤ I 1 3) : SpecF 0 M_X5_addSenator [.ref 1, .int r, .int p] xG1 I J (some (.int (-3))) I J := by
  refine specF_of (L := [some (.ref 1), some (.int r), some (.int p)]) (by decide) (Nat.le_of_ble_eq_true rfl) rfl ?_
  refine iX5_addSenator_0 (iX5_addSenator_1 (iX5_addSenator_4 (iX5_addSenator_6 (fun h6 => ?_) (fun h6 => ?_))))
  · exfalso
    grind
  · refine iX5_addSenator_9 (iX5_addSenator_11 ?_)
    exact ⟨rfl, rfl, rfl, rfl⟩
theorem s_X5_addSenator_ok {I : xI} {J : xJ} (r p : Int32) (hB : ¬ I 1 3 < 0) (h : I 1 3 < 6) : SpecF 0 M_X5_addSenator [.ref 1, .int r, .int p] xG1 I J (some (.int (I 1 3))) (g_addSenator I r p) J := by
  refine specF_of (L := [some (.ref 1), some (.int r), some (.int p)]) (by decide) (Nat.le_of_ble_eq_true rfl) rfl ?_
  have hv : vp_in (I 1 3) 10 := vin 10 (by decide) hB (by grind)
  refine iX5_addSenator_0 (iX5_addSenator_1 (iX5_addSenator_4 (iX5_addSenator_6 (fun h6 => ?_) (fun h6 => absurd (h) (by first | exact h6 | exact fun q => q h6)))))
  refine iX5_addSenator_12 (iX5_addSenator_13 (iX5_addSenator_16 (iX5_addSenator_17 (vin 10 (by decide) (by decide) (by decide)) (num_at (k := 4) (by decide)).1 (iX5_addSenator_18 (iX5_addSenator_19 (iX5_addSenator_22 (iX5_addSenator_23 (num_at (k := 4) (by decide)).2 hv (iX5_addSenator_24 (iX5_addSenator_25 (iX5_addSenator_28 (iX5_addSenator_29 (vin 10 (by decide) (by decide) (by decide)) (num_at (k := 5) (by decide)).1 (iX5_addSenator_30 (iX5_addSenator_31 (iX5_addSenator_34 (iX5_addSenator_35 (num_at (k := 5) (by decide)).2 hv (iX5_addSenator_36 (iX5_addSenator_37 (iX5_addSenator_38 (iX5_addSenator_41 (iX5_addSenator_42 (iX5_addSenator_43 (iX5_addSenator_44 (iX5_addSenator_47 ?_)))))))))))))))))))))))
  exact ⟨by simp [xu], rfl, by simp [g_addSenator, xu], rfl⟩
/-- a shelf and its row of elements -/
def xSh (a e : Nat) : Prop := xG1.1[a]? = some (9, 5) ∧ xr xG1 a 0 = some e ∧ xG1.1[e]? = some (101, 60)
theorem xSh_at {k : Nat} (h : k < 6) : xSh (45 + 2 * k) (46 + 2 * k) := ⟨(shelf_at h).2.1, (shelf_at h).2.2.1, (shelf_at h).2.2.2⟩
section
variable {I : xI} {J : xJ} {a e : Nat}
theorem s_X9_isEmpty (h : xSh a e) : SpecF 0 M_X9_isEmpty [.ref a] xG1 I J (some (.int (if I a 1 = 0 then 1 else 0))) I J := by
  refine specF_of (L := [some (.ref a)]) (by decide) (Nat.le_of_ble_eq_true rfl) rfl ?_
  refine iX9_isEmpty_0 (iX9_isEmpty_1 h.1 (iX9_isEmpty_4 (fun h4 => ?_) (fun h4 => ?_)))
  · refine iX9_isEmpty_11 (iX9_isEmpty_12 ?_)
    exact ⟨by simp [*], rfl, rfl, rfl⟩
  · refine iX9_isEmpty_7 (iX9_isEmpty_8 (iX9_isEmpty_12 ?_))
    exact ⟨by simp [*], rfl, rfl, rfl⟩
theorem s_X9_isRow (h : xSh a e) : SpecF 0 M_X9_isRow [.ref a] xG1 I J (some (.int (if I a 1 = 2 then 1 else 0))) I J := by
  refine specF_of (L := [some (.ref a)]) (by decide) (Nat.le_of_ble_eq_true rfl) rfl ?_
  refine iX9_isRow_0 (iX9_isRow_1 h.1 (iX9_isRow_4 (iX9_isRow_5 (fun h5 => ?_) (fun h5 => ?_))))
  · refine iX9_isRow_12 (iX9_isRow_13 ?_)
    exact ⟨by simp [*], rfl, rfl, rfl⟩
  · refine iX9_isRow_8 (iX9_isRow_9 (iX9_isRow_13 ?_))
    exact ⟨by simp [*], rfl, rfl, rfl⟩
def f_like (I : xI) (a c : Nat) : Int32 := if I a 1 = 2 ∧ I c 1 = 2 ∧ I a 3 = I c 3 then 1 else 0
theorem s_X9_isLike {c e' : Nat} (h : xSh a e) (h' : xSh c e') : SpecF 1 M_X9_isLike [.ref a, .ref c] xG1 I J (some (.int (f_like I a c))) I J := by
  refine specF_of (L := [some (.ref a), some (.ref c)]) (by decide) (Nat.le_of_ble_eq_true rfl) rfl ?_
  refine iX9_isLike_0 (iX9_isLike_1 h.1 (s_X9_isRow h) (iX9_isLike_4 (fun h4 => ?_) (fun h4 => ?_)))
  · refine iX9_isLike_29 (iX9_isLike_30 ?_)
    refine ⟨congrArg (fun z => some (Value.int z)) ?_, rfl, rfl, rfl⟩
    unfold f_like
    grind
  · refine iX9_isLike_7 (iX9_isLike_8 h'.1 (s_X9_isRow h') (iX9_isLike_11 (fun h11 => ?_) (fun h11 => ?_)))
    · refine iX9_isLike_29 (iX9_isLike_30 ?_)
      refine ⟨congrArg (fun z => some (Value.int z)) ?_, rfl, rfl, rfl⟩
      unfold f_like
      grind
    · refine iX9_isLike_14 (iX9_isLike_15 h.1 (iX9_isLike_18 (iX9_isLike_19 h'.1 (iX9_isLike_22 (fun h22 => ?_) (fun h22 => ?_)))))
      · refine iX9_isLike_29 (iX9_isLike_30 ?_)
        refine ⟨congrArg (fun z => some (Value.int z)) ?_, rfl, rfl, rfl⟩
        unfold f_like
        grind
      · refine iX9_isLike_25 (iX9_isLike_26 (iX9_isLike_30 ?_))
        refine ⟨congrArg (fun z => some (Value.int z)) ?_, rfl, rfl, rfl⟩
        unfold f_like
        grind
def f_refB (I : xI) (a : Nat) : Int32 := if I a 1 = 0 then -11 else if I a 1 = 2 ∧ I a 3 = 0 then 0 else -12
theorem s_X9_refusalOfBytes (h : xSh a e) : SpecF 0 M_X9_refusalOfBytes [.ref a] xG1 I J (some (.int (f_refB I a))) I J := by
  refine specF_of (L := [some (.ref a)]) (by decide) (Nat.le_of_ble_eq_true rfl) rfl ?_
  refine iX9_refusalOfBytes_0 (iX9_refusalOfBytes_1 h.1 (iX9_refusalOfBytes_4 (fun h4 => ?_) (fun h4 => ?_)))
  · refine iX9_refusalOfBytes_10 (iX9_refusalOfBytes_11 h.1 (iX9_refusalOfBytes_14 (iX9_refusalOfBytes_15 (fun h15 => ?_) (fun h15 => ?_))))
    · refine iX9_refusalOfBytes_29 (iX9_refusalOfBytes_31 ?_)
      refine ⟨congrArg (fun z => some (Value.int z)) ?_, rfl, rfl, rfl⟩
      unfold f_refB
      grind
    · refine iX9_refusalOfBytes_18 (iX9_refusalOfBytes_19 h.1 (iX9_refusalOfBytes_22 (fun h22 => ?_) (fun h22 => ?_)))
      · refine iX9_refusalOfBytes_29 (iX9_refusalOfBytes_31 ?_)
        refine ⟨congrArg (fun z => some (Value.int z)) ?_, rfl, rfl, rfl⟩
        unfold f_refB
        grind
      · refine iX9_refusalOfBytes_25 (iX9_refusalOfBytes_26 (iX9_refusalOfBytes_31 ?_))
        refine ⟨congrArg (fun z => some (Value.int z)) ?_, rfl, rfl, rfl⟩
        unfold f_refB
        grind
  · refine iX9_refusalOfBytes_7 (iX9_refusalOfBytes_9 ?_)
    refine ⟨congrArg (fun z => some (Value.int z)) ?_, rfl, rfl, rfl⟩
    unfold f_refB
    grind
end
