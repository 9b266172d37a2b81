/-! ===== House ===== -/
def f_has (I : xI) (n w : Int32) : Int32 := if w < 0 ∨ 9 < w ∨ n < 0 then 0 else if n < (if w ≤ 3 then I 1 2 else if w ≤ 5 then I 1 3 else 1) then 1 else 0
theorem f_has_01 {I : xI} {n w : Int32} : f_has I n w = 0 ∨ f_has I n w = 1 := by unfold f_has; grind
theorem f_has_in {I : xI} {n w : Int32} (h : ¬ f_has I n w = 0) (hB : I 1 2 ≤ 10) (hS : I 1 3 ≤ 6) : ¬ w < 0 ∧ w < 10 ∧ ¬ n < 0 ∧ n < 10 := by
  unfold f_has at h
  grind
theorem s_X5_billCount {I : xI} {J : xJ} : SpecF 0 M_X5_billCount [.ref 1] xG1 I J (some (.int (I 1 2))) I J := by
  refine specF_of (L := [some (.ref 1)]) (by decide) (Nat.le_of_ble_eq_true rfl) rfl ?_
  refine iX5_billCount_0 (iX5_billCount_1 (iX5_billCount_4 ?_))
  exact ⟨rfl, rfl, rfl, rfl⟩
theorem s_X5_senatorCount {I : xI} {J : xJ} : SpecF 0 M_X5_senatorCount [.ref 1] xG1 I J (some (.int (I 1 3))) I J := by
  refine specF_of (L := [some (.ref 1)]) (by decide) (Nat.le_of_ble_eq_true rfl) rfl ?_
  refine iX5_senatorCount_0 (iX5_senatorCount_1 (iX5_senatorCount_4 ?_))
  exact ⟨rfl, rfl, rfl, rfl⟩
theorem s_X5_has {I : xI} {J : xJ} (n w : Int32) : SpecF 0 M_X5_has [.ref 1, .int n, .int w] xG1 I J (some (.int (f_has I n w))) I J := by
  refine specF_of (L := [some (.ref 1), some (.int n), some (.int w)]) (by decide) (Nat.le_of_ble_eq_true rfl) rfl ?_
  refine iX5_has_0 (iX5_has_1 (fun h1 => ?_) (fun h1 => ?_))
  · refine iX5_has_14 (iX5_has_15 ?_)
    refine ⟨congrArg (fun z => some (Value.int z)) ?_, rfl, rfl, rfl⟩
    unfold f_has
    grind
  · refine iX5_has_4 (iX5_has_5 (iX5_has_7 (fun h7 => ?_) (fun h7 => ?_)))
    · refine iX5_has_14 (iX5_has_15 ?_)
      refine ⟨congrArg (fun z => some (Value.int z)) ?_, rfl, rfl, rfl⟩
      unfold f_has
      grind
    · refine iX5_has_10 (iX5_has_11 (fun h11 => ?_) (fun h11 => ?_))
      · refine iX5_has_16 (iX5_has_17 (iX5_has_18 (iX5_has_19 (fun h19 => ?_) (fun h19 => ?_))))
        · refine iX5_has_29 (iX5_has_30 (iX5_has_31 (fun h31 => ?_) (fun h31 => ?_)))
          · refine iX5_has_41 (iX5_has_42 (fun h42 => ?_) (fun h42 => ?_))
            · refine iX5_has_49 (iX5_has_50 ?_)
              refine ⟨congrArg (fun z => some (Value.int z)) ?_, rfl, rfl, rfl⟩
              unfold f_has
              grind
            · refine iX5_has_45 (iX5_has_46 (iX5_has_50 ?_))
              refine ⟨congrArg (fun z => some (Value.int z)) ?_, rfl, rfl, rfl⟩
              unfold f_has
              grind
          · refine iX5_has_34 (iX5_has_35 (iX5_has_38 (iX5_has_42 (fun h42 => ?_) (fun h42 => ?_))))
            · refine iX5_has_49 (iX5_has_50 ?_)
              refine ⟨congrArg (fun z => some (Value.int z)) ?_, rfl, rfl, rfl⟩
              unfold f_has
              grind
            · refine iX5_has_45 (iX5_has_46 (iX5_has_50 ?_))
              refine ⟨congrArg (fun z => some (Value.int z)) ?_, rfl, rfl, rfl⟩
              unfold f_has
              grind
        · refine iX5_has_22 (iX5_has_23 (iX5_has_26 (iX5_has_42 (fun h42 => ?_) (fun h42 => ?_))))
          · refine iX5_has_49 (iX5_has_50 ?_)
            refine ⟨congrArg (fun z => some (Value.int z)) ?_, rfl, rfl, rfl⟩
            unfold f_has
            grind
          · refine iX5_has_45 (iX5_has_46 (iX5_has_50 ?_))
            refine ⟨congrArg (fun z => some (Value.int z)) ?_, rfl, rfl, rfl⟩
            unfold f_has
            grind
      · refine iX5_has_14 (iX5_has_15 ?_)
        refine ⟨congrArg (fun z => some (Value.int z)) ?_, rfl, rfl, rfl⟩
        unfold f_has
        grind
def f_get (I : xI) (n w : Int32) : Int32 := if f_has I n w = 0 then 0 else I (7 + w.toNatClampNeg) n.toNatClampNeg
theorem s_X5_get {I : xI} {J : xJ} (n w : Int32) (hB : I 1 2 ≤ 10) (hS : I 1 3 ≤ 6) : SpecF 1 M_X5_get [.ref 1, .int n, .int w] xG1 I J (some (.int (f_get I n w))) I J := by
  refine specF_of (L := [some (.ref 1), some (.int n), some (.int w)]) (by decide) (Nat.le_of_ble_eq_true rfl) rfl ?_
  refine iX5_get_0 (iX5_get_1 (iX5_get_2 (iX5_get_3 (s_X5_has n w) (iX5_get_6 (fun h => ?_) (fun h => ?_)))))
  · refine iX5_get_20 (iX5_get_21 ?_)
    exact ⟨by simp [f_get, h], rfl, rfl, rfl⟩
  · obtain ⟨h1, h2, h3, h4⟩ := f_has_in h hB hS
    have hk := num_at (clamp_lt (N := 10) (by decide) h1 h2)
    refine iX5_get_9 (iX5_get_10 (iX5_get_13 (iX5_get_14 (vin 10 (by decide) h1 h2) hk.1 (iX5_get_15 (iX5_get_16 hk.2 (vin 10 (by decide) h3 h4) (iX5_get_17 (iX5_get_21 ?_)))))))
    exact ⟨by simp [f_get, h], rfl, rfl, rfl⟩
def g_set (I : xI) (n w v : Int32) : xI := if f_has I n w = 0 then I else xu I (7 + w.toNatClampNeg) n.toNatClampNeg v
theorem s_X5_set {I : xI} {J : xJ} (n w v : Int32) (hB : I 1 2 ≤ 10) (hS : I 1 3 ≤ 6) : SpecF 1 M_X5_set [.ref 1, .int n, .int w, .int v] xG1 I J none (g_set I n w v) J := by
  refine specF_of (L := [some (.ref 1), some (.int n), some (.int w), some (.int v)]) (by decide) (Nat.le_of_ble_eq_true rfl) rfl ?_
  refine iX5_set_0 (iX5_set_1 (iX5_set_2 (iX5_set_3 (s_X5_has n w) (iX5_set_6 (fun h => ?_) (fun h => ?_)))))
  · refine iX5_set_18 ?_
    exact ⟨rfl, rfl, by simp [g_set, h], rfl⟩
  · obtain ⟨h1, h2, h3, h4⟩ := f_has_in h hB hS
    have hk := num_at (clamp_lt (N := 10) (by decide) h1 h2)
    refine iX5_set_9 (iX5_set_10 (iX5_set_13 (iX5_set_14 (vin 10 (by decide) h1 h2) hk.1 (iX5_set_15 (iX5_set_16 (iX5_set_17 hk.2 (vin 10 (by decide) h3 h4) (iX5_set_18 ?_)))))))
    exact ⟨rfl, rfl, by simp [g_set, h], rfl⟩
theorem s_X5_its {I : xI} {J : xJ} (w : Int32) (hB : I 1 2 ≤ 10) (hS : I 1 3 ≤ 6) : SpecF 2 M_X5_its [.ref 1, .int w] xG1 I J (some (.int (f_get I 0 w))) I J := by
  refine specF_of (L := [some (.ref 1), some (.int w)]) (by decide) (Nat.le_of_ble_eq_true rfl) rfl ?_
  refine iX5_its_0 (iX5_its_1 (iX5_its_2 (iX5_its_3 (s_X5_get 0 w hB hS) (iX5_its_6 ?_))))
  exact ⟨rfl, rfl, rfl, rfl⟩
theorem f_get_its {I : xI} (w : Nat) (h : 6 ≤ w) (h2 : w ≤ 9) : f_get I 0 (nI w) = I (7 + w) 0 := by
  have h5 : ¬ f_has I 0 (nI w) = 0 := by
    have e1 : ¬ nI w < 0 := nI_pos (by omega)
    have e2 : ¬ 9 < nI w := nI_nlt (b := w) (a := 9) (by omega) (by omega)
    have e3 : ¬ nI w ≤ 3 := nI_ge (a := 3) (b := w) (by omega) (by omega)
    have e4 : ¬ nI w ≤ 5 := nI_ge (a := 5) (b := w) (by omega) (by omega)
    unfold f_has
    grind
  simp only [f_get, h5, if_false]
  rw [nI_clamp (by omega)]
  rfl
def f_isReading (I : xI) (bs : Int32) : Int32 := if bs < 0 then 0 else if f_has I (bs / 10) 0 = 0 then 0 else if f_has I (bs - bs / 10 * 10) 4 = 0 then 0 else 1
theorem s_X5_isReading {I : xI} {J : xJ} (bs : Int32) : SpecF 1 M_X5_isReading [.ref 1, .int bs] xG1 I J (some (.int (f_isReading I bs))) I J := by
  refine specF_of (L := [some (.ref 1), some (.int bs)]) (by decide) (Nat.le_of_ble_eq_true rfl) rfl ?_
  refine iX5_isReading_0 (iX5_isReading_1 (fun h1 => ?_) (fun h1 => ?_))
  · refine iX5_isReading_32 (iX5_isReading_33 ?_)
    exact ⟨by simp [f_isReading, *], rfl, rfl, rfl⟩
  · refine iX5_isReading_4 (iX5_isReading_5 (iX5_isReading_6 (iX5_isReading_8 (by decide) (iX5_isReading_9 (iX5_isReading_10 (s_X5_has (bs / 10) 0) (iX5_isReading_13 (fun h13 => ?_) (fun h13 => ?_)))))))
    · refine iX5_isReading_32 (iX5_isReading_33 ?_)
      exact ⟨by simp [f_isReading, *], rfl, rfl, rfl⟩
    · refine iX5_isReading_16 (iX5_isReading_17 (iX5_isReading_18 (iX5_isReading_20 (by decide) (iX5_isReading_21 (iX5_isReading_22 (s_X5_has (bs - bs / 10 * 10) 4) (iX5_isReading_25 (fun h25 => ?_) (fun h25 => ?_)))))))
      · refine iX5_isReading_32 (iX5_isReading_33 ?_)
        exact ⟨by simp [f_isReading, *], rfl, rfl, rfl⟩
      · refine iX5_isReading_28 (iX5_isReading_29 (iX5_isReading_33 ?_))
        exact ⟨by simp [f_isReading, *], rfl, rfl, rfl⟩
def f_reading (I : xI) (b s : Int32) : Int32 := if f_has I b 0 = 0 then -1 else if f_has I s 4 = 0 then -1 else 10 * b + s
theorem s_X5_reading {I : xI} {J : xJ} (b s : Int32) : SpecF 1 M_X5_reading [.ref 1, .int b, .int s] xG1 I J (some (.int (f_reading I b s))) I J := by
  refine specF_of (L := [some (.ref 1), some (.int b), some (.int s)]) (by decide) (Nat.le_of_ble_eq_true rfl) rfl ?_
  refine iX5_reading_0 (iX5_reading_1 (iX5_reading_2 (iX5_reading_3 (s_X5_has b 0) (iX5_reading_6 (fun h6 => ?_) (fun h6 => ?_)))))
  · refine iX5_reading_27 (iX5_reading_28 ?_)
    exact ⟨by simp [f_reading, *], rfl, rfl, rfl⟩
  · refine iX5_reading_9 (iX5_reading_10 (iX5_reading_11 (iX5_reading_12 (s_X5_has s 4) (iX5_reading_15 (fun h15 => ?_) (fun h15 => ?_)))))
    · refine iX5_reading_27 (iX5_reading_28 ?_)
      exact ⟨by simp [f_reading, *], rfl, rfl, rfl⟩
    · refine iX5_reading_18 (iX5_reading_20 (iX5_reading_21 (iX5_reading_22 (iX5_reading_23 (iX5_reading_24 (iX5_reading_28 ?_))))))
      exact ⟨by simp [f_reading, *], rfl, rfl, rfl⟩
theorem s_X5_worth {I : xI} {J : xJ} (bs : Int32) (hB : I 1 2 ≤ 10) (hS : I 1 3 ≤ 6) : SpecF 2 M_X5_worth [.ref 1, .int bs] xG1 I J (some (.int (f_get I (bs / 10) 3))) I J := by
  refine specF_of (L := [some (.ref 1), some (.int bs)]) (by decide) (Nat.le_of_ble_eq_true rfl) rfl ?_
  refine iX5_worth_0 (iX5_worth_1 (iX5_worth_2 (iX5_worth_4 (by decide) (iX5_worth_5 (iX5_worth_6 (s_X5_get (bs / 10) 3 hB hS) (iX5_worth_9 ?_))))))
  exact ⟨rfl, rfl, rfl, rfl⟩
theorem s_X5_later {I : xI} {J : xJ} (a b : Int32) : SpecF 1 M_X5_later [.ref 1, .int a, .int b] xG1 I J (some (.int (f_min 95 (a + b)))) I J := by
  refine specF_of (L := [some (.ref 1), some (.int a), some (.int b)]) (by decide) (Nat.le_of_ble_eq_true rfl) rfl ?_
  refine iX5_later_0 (iX5_later_2 (iX5_later_3 (iX5_later_4 (iX5_later_5 (s_J9_min 95 (a + b)) (iX5_later_8 ?_)))))
  exact ⟨rfl, rfl, rfl, rfl⟩
def f_sinceB (I : xI) (bs since : Int32) : Int32 := f_min 95 (since + f_get I (bs / 10) 0)
theorem s_X5_sinceBehind {I : xI} {J : xJ} (bs since : Int32) (hB : I 1 2 ≤ 10) (hS : I 1 3 ≤ 6) : SpecF 2 M_X5_sinceBehind [.ref 1, .int bs, .int since] xG1 I J (some (.int (f_sinceB I bs since))) I J := by
  refine specF_of (L := [some (.ref 1), some (.int bs), some (.int since)]) (by decide) (Nat.le_of_ble_eq_true rfl) rfl ?_
  refine iX5_sinceBehind_0 (iX5_sinceBehind_1 (iX5_sinceBehind_2 (iX5_sinceBehind_3 (iX5_sinceBehind_4 (iX5_sinceBehind_6 (by decide) (iX5_sinceBehind_7 (iX5_sinceBehind_8 (s_X5_get (bs / 10) 0 hB hS) (iX5_sinceBehind_11 (s_X5_later since _) (iX5_sinceBehind_14 ?_)))))))))
  exact ⟨rfl, rfl, rfl, rfl⟩
def f_may (w v : Int32) : Int32 := if w < 0 ∨ 9 < w then 0 else if v < (xTB 0).getD w.toNatClampNeg 0 ∨ (xTB 1).getD w.toNatClampNeg 0 < v then 0 else 1
theorem s_X5_may {I : xI} {J : xJ} (w v : Int32) : SpecF 0 M_X5_may [.int w, .int v] xG1 I J (some (.int (f_may w v))) I J := by
  refine specF_of (L := [some (.int w), some (.int v)]) (by decide) (Nat.le_of_ble_eq_true rfl) rfl ?_
  refine iX5_may_0 (iX5_may_1 (fun h1 => ?_) (fun h1 => ?_))
  · refine iX5_may_32 (iX5_may_33 ?_)
    refine ⟨congrArg (fun z => some (Value.int z)) ?_, rfl, rfl, rfl⟩
    unfold f_may
    grind
  · refine iX5_may_4 (iX5_may_5 (iX5_may_7 (fun h7 => ?_) (fun h7 => ?_)))
    · refine iX5_may_32 (iX5_may_33 ?_)
      refine ⟨congrArg (fun z => some (Value.int z)) ?_, rfl, rfl, rfl⟩
      unfold f_may
      grind
    · refine iX5_may_10 (iX5_may_11 (iX5_may_14 (iX5_may_15 (vin 10 (by decide) (by grind) (by grind)) (iX5_may_16 (fun h16 => ?_) (fun h16 => ?_)))))
      · refine iX5_may_32 (iX5_may_33 ?_)
        refine ⟨congrArg (fun z => some (Value.int z)) ?_, rfl, rfl, rfl⟩
        unfold f_may
        grind
      · refine iX5_may_19 (iX5_may_20 (iX5_may_23 (iX5_may_24 (vin 10 (by decide) (by grind) (by grind)) (iX5_may_25 (fun h25 => ?_) (fun h25 => ?_)))))
        · refine iX5_may_32 (iX5_may_33 ?_)
          refine ⟨congrArg (fun z => some (Value.int z)) ?_, rfl, rfl, rfl⟩
          unfold f_may
          grind
        · refine iX5_may_28 (iX5_may_29 (iX5_may_33 ?_))
          refine ⟨congrArg (fun z => some (Value.int z)) ?_, rfl, rfl, rfl⟩
          unfold f_may
          grind
