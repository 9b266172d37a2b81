/-! ===== House: what only reads ===== -/
def f_has (I : xI) (n w : Int32) : Int32 := if w < 0 ∨ 9 < w ∨ n < 0 then 0 else if n < (if w ≤ 3 then I 1 2 else if w ≤ 5 then I 1 3 else 1) then 1 else 0
theorem s_X5_billCount {I : xI} {J : xJ} : SpecF 0 M_X5_billCount [.ref 1] xG1 I J (some (.int (I 1 2))) I J := by
  refine specF_of (L := [some (.ref 1)]) (by decide) (Nat.le_of_ble_eq_true rfl) rfl ?_
  refine iX5_billCount_0 (iX5_billCount_1 (iX5_billCount_4 ?_))
  exact ⟨rfl, rfl, rfl, rfl⟩
theorem s_X5_senatorCount {I : xI} {J : xJ} : SpecF 0 M_X5_senatorCount [.ref 1] xG1 I J (some (.int (I 1 3))) I J := by
  refine specF_of (L := [some (.ref 1)]) (by decide) (Nat.le_of_ble_eq_true rfl) rfl ?_
  refine iX5_senatorCount_0 (iX5_senatorCount_1 (iX5_senatorCount_4 ?_))
  exact ⟨rfl, rfl, rfl, rfl⟩
theorem s_X5_has {I : xI} {J : xJ} (n w : Int32) : SpecF 0 M_X5_has [.ref 1, .int n, .int w] xG1 I J (some (.int (f_has I n w))) I J := by
  refine specF_of (L := [some (.ref 1), some (.int n), some (.int w)]) (by decide) (Nat.le_of_ble_eq_true rfl) rfl ?_
  refine iX5_has_0 (iX5_has_1 (fun h1 => ?_) (fun h1 => ?_))
  · refine iX5_has_14 (iX5_has_15 ?_)
    refine ⟨congrArg (fun z => some (Value.int z)) ?_, rfl, rfl, rfl⟩
    unfold f_has
    grind
  · refine iX5_has_4 (iX5_has_5 (iX5_has_7 (fun h7 => ?_) (fun h7 => ?_)))
    · refine iX5_has_14 (iX5_has_15 ?_)
      refine ⟨congrArg (fun z => some (Value.int z)) ?_, rfl, rfl, rfl⟩
      unfold f_has
      grind
    · refine iX5_has_10 (iX5_has_11 (fun h11 => ?_) (fun h11 => ?_))
      · refine iX5_has_16 (iX5_has_17 (iX5_has_18 (iX5_has_19 (fun h19 => ?_) (fun h19 => ?_))))
        · refine iX5_has_29 (iX5_has_30 (iX5_has_31 (fun h31 => ?_) (fun h31 => ?_)))
          · refine iX5_has_41 (iX5_has_42 (fun h42 => ?_) (fun h42 => ?_))
            · refine iX5_has_49 (iX5_has_50 ?_)
              refine ⟨congrArg (fun z => some (Value.int z)) ?_, rfl, rfl, rfl⟩
              unfold f_has
              grind
            · refine iX5_has_45 (iX5_has_46 (iX5_has_50 ?_))
              refine ⟨congrArg (fun z => some (Value.int z)) ?_, rfl, rfl, rfl⟩
              unfold f_has
              grind
          · refine iX5_has_34 (iX5_has_35 (iX5_has_38 (iX5_has_42 (fun h42 => ?_) (fun h42 => ?_))))
            · refine iX5_has_49 (iX5_has_50 ?_)
              refine ⟨congrArg (fun z => some (Value.int z)) ?_, rfl, rfl, rfl⟩
              unfold f_has
              grind
            · refine iX5_has_45 (iX5_has_46 (iX5_has_50 ?_))
              refine ⟨congrArg (fun z => some (Value.int z)) ?_, rfl, rfl, rfl⟩
              unfold f_has
              grind
        · refine iX5_has_22 (iX5_has_23 (iX5_has_26 (iX5_has_42 (fun h42 => ?_) (fun h42 => ?_))))
          · refine iX5_has_49 (iX5_has_50 ?_)
            refine ⟨congrArg (fun z => some (Value.int z)) ?_, rfl, rfl, rfl⟩
            unfold f_has
            grind
          · refine iX5_has_45 (iX5_has_46 (iX5_has_50 ?_))
            refine ⟨congrArg (fun z => some (Value.int z)) ?_, rfl, rfl, rfl⟩
            unfold f_has
            grind
      · refine iX5_has_14 (iX5_has_15 ?_)
        refine ⟨congrArg (fun z => some (Value.int z)) ?_, rfl, rfl, rfl⟩
        unfold f_has
        grind
