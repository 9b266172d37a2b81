/-! ===== readers: of, led, trace, count ===== -/
section
variable {I : xI} {J : xJ}
theorem s_its (w c : Nat) {W : Int32} (hW : nI w = W) (hc : 7 + w = c) (h6 : 6 ≤ w) (h9 : w ≤ 9) (hB : I 1 2 ≤ 10) (hS : I 1 3 ≤ 6) : SpecF 2 M_X5_its [.ref 1, .int W] xG1 I J (some (.int (I c 0))) I J := by
  subst hW hc
  have := s_X5_its (J := J) (nI w) hB hS
  rw [f_get_its w h6 h9] at this
  exact this
theorem f_has_inf {w : Nat} (h : 6 ≤ w) (h2 : w ≤ 9) : f_has I 0 (nI w) = 1 := by
  have e1 : ¬ nI w < 0 := nI_pos (by omega)
  have e2 : ¬ 9 < nI w := nI_nlt (b := w) (a := 9) (by omega) (by omega)
  have e3 : ¬ nI w ≤ 3 := nI_ge (a := 3) (b := w) (by omega) (by omega)
  have e4 : ¬ nI w ≤ 5 := nI_ge (a := 5) (b := w) (by omega) (by omega)
  unfold f_has
  grind
theorem s_setInf (w c : Nat) {W : Int32} (v : Int32) (hW : nI w = W) (hc : 7 + w = c) (h6 : 6 ≤ w) (h9 : w ≤ 9) (hB : I 1 2 ≤ 10) (hS : I 1 3 ≤ 6) : SpecF 1 M_X5_set [.ref 1, .int 0, .int W, .int v] xG1 I J none (xu I c 0 v) J := by
  subst hW hc
  have := s_X5_set (J := J) 0 (nI w) v hB hS
  unfold g_set at this
  rw [f_has_inf h6 h9, if_neg (by decide), nI_clamp (by omega)] at this
  exact this
theorem s_X4_done (w : Int32) : SpecF 0 M_X4_done [.ref 37, .int w] xG1 I J (some (.int (if 0 ≤ w ∧ w < 6 then I 38 w.toNatClampNeg else 0))) I J := by
  refine specF_of (L := [some (.ref 37), some (.int w)]) (by decide) (Nat.le_of_ble_eq_true rfl) rfl ?_
  refine iX4_done_0 (iX4_done_1 (fun h1 => ?_) (fun h1 => ?_))
  · refine iX4_done_19 (iX4_done_20 ?_)
    exact ⟨congrArg (fun z => some (Value.int z)) (by grind), rfl, rfl, rfl⟩
  · refine iX4_done_4 (iX4_done_5 (iX4_done_7 (fun h7 => ?_) (fun h7 => ?_)))
    · refine iX4_done_19 (iX4_done_20 ?_)
      exact ⟨congrArg (fun z => some (Value.int z)) (by grind), rfl, rfl, rfl⟩
    · refine iX4_done_10 (iX4_done_11 (iX4_done_14 (iX4_done_15 (vin 6 (by decide) (by grind) (by grind)) (iX4_done_16 (iX4_done_20 ?_)))))
      exact ⟨congrArg (fun z => some (Value.int z)) (by grind), rfl, rfl, rfl⟩
theorem s_X3_traceAt (w : Int32) (hcl : ivCl I) : SpecF 0 M_X3_traceAt [.ref 41, .int w] xG1 I J (some (.int (if 0 ≤ w ∧ w < 24 ∧ w < I 41 3 then I 43 w.toNatClampNeg else -1))) I J := by
  refine specF_of (L := [some (.ref 41), some (.int w)]) (by decide) (Nat.le_of_ble_eq_true rfl) rfl ?_
  refine iX3_traceAt_0 (iX3_traceAt_1 (fun h1 => ?_) (fun h1 => ?_))
  · refine iX3_traceAt_27 (iX3_traceAt_28 ?_)
    exact ⟨congrArg (fun z => some (Value.int z)) (by grind), rfl, rfl, rfl⟩
  · refine iX3_traceAt_4 (iX3_traceAt_5 (iX3_traceAt_7 (fun h7 => ?_) (fun h7 => ?_)))
    · refine iX3_traceAt_27 (iX3_traceAt_28 ?_)
      exact ⟨congrArg (fun z => some (Value.int z)) (by grind), rfl, rfl, rfl⟩
    · refine iX3_traceAt_10 (iX3_traceAt_11 (iX3_traceAt_12 (iX3_traceAt_15 (fun h15 => ?_) (fun h15 => ?_))))
      · refine iX3_traceAt_27 (iX3_traceAt_28 ?_)
        exact ⟨congrArg (fun z => some (Value.int z)) (by grind), rfl, rfl, rfl⟩
      · refine iX3_traceAt_18 (iX3_traceAt_19 (iX3_traceAt_22 (iX3_traceAt_23 (vin 24 (by decide) (by grind) (by grind)) (iX3_traceAt_24 (iX3_traceAt_28 ?_)))))
        exact ⟨congrArg (fun z => some (Value.int z)) (by grind), rfl, rfl, rfl⟩
theorem s_X10_length : SpecF 0 M_X10_length [.ref 17] xG1 I J (some (.int (I 17 2))) I J := by
  refine specF_of (L := [some (.ref 17)]) (by decide) (Nat.le_of_ble_eq_true rfl) rfl ?_
  refine iX10_length_0 (iX10_length_1 (iX10_length_4 ?_))
  exact ⟨rfl, rfl, rfl, rfl⟩
theorem s_X2_behind : SpecF 0 M_X2_behind [.ref 20] xG1 I J (some (.int (I 20 5))) I J := by
  refine specF_of (L := [some (.ref 20)]) (by decide) (Nat.le_of_ble_eq_true rfl) rfl ?_
  refine iX2_behind_0 (iX2_behind_1 (iX2_behind_4 ?_))
  exact ⟨rfl, rfl, rfl, rfl⟩
theorem s_X2_ahead : SpecF 0 M_X2_ahead [.ref 20] xG1 I J (some (.int (I 20 6 - I 20 5))) I J := by
  refine specF_of (L := [some (.ref 20)]) (by decide) (Nat.le_of_ble_eq_true rfl) rfl ?_
  refine iX2_ahead_0 (iX2_ahead_1 (iX2_ahead_4 (iX2_ahead_5 (iX2_ahead_8 (iX2_ahead_9 ?_)))))
  exact ⟨rfl, rfl, rfl, rfl⟩
theorem s_X3_size : SpecF 0 M_X3_size [.ref 41] xG1 I J (some (.int (I 41 2))) I J := by
  refine specF_of (L := [some (.ref 41)]) (by decide) (Nat.le_of_ble_eq_true rfl) rfl ?_
  refine iX3_size_0 (iX3_size_1 (iX3_size_4 ?_))
  exact ⟨rfl, rfl, rfl, rfl⟩
theorem s_X3_ran : SpecF 0 M_X3_ran [.ref 41] xG1 I J (some (.int (I 41 3))) I J := by
  refine specF_of (L := [some (.ref 41)]) (by decide) (Nat.le_of_ble_eq_true rfl) rfl ?_
  refine iX3_ran_0 (iX3_ran_1 (iX3_ran_4 ?_))
  exact ⟨rfl, rfl, rfl, rfl⟩
def f_place (I : xI) (n w : Int32) : Int32 := if f_in w 0 3 = 0 then (if f_in w 4 5 = 0 then (if f_in w 6 9 = 0 then 0 else if n = 0 then 1 else 0) else f_in n 0 (I 57 6 - 1)) else f_in n 0 (I 57 1 - 1)
theorem f_place_01 {n w : Int32} : f_place I n w = 0 ∨ f_place I n w = 1 := by
  unfold f_place f_in
  grind
theorem f_place_has (h : ivHouse I) (n w : Int32) : f_place I n w = f_has I n w := by
  obtain ⟨a1, a2, a3, a4, a5, a6⟩ := h
  unfold f_place f_has f_in
  rw [a1, a2]
  grind
theorem s_X12_isPlace (n w : Int32) : SpecF 2 M_X12_isPlace [.ref 57, .int n, .int w] xG1 I J (some (.int (f_place I n w))) I J := by
  refine specF_of (L := [some (.ref 57), some (.int n), some (.int w)]) (by decide) (Nat.le_of_ble_eq_true rfl) rfl ?_
  refine iX12_isPlace_0 (iX12_isPlace_1 (iX12_isPlace_2 (iX12_isPlace_3 (s_X12_in _ _ _) (iX12_isPlace_6 (fun h6 => ?_) (fun h6 => ?_)))))
  · refine iX12_isPlace_17 (iX12_isPlace_18 (iX12_isPlace_19 (iX12_isPlace_20 (s_X12_in _ _ _) (iX12_isPlace_23 (fun h23 => ?_) (fun h23 => ?_)))))
    · refine iX12_isPlace_34 (iX12_isPlace_35 (iX12_isPlace_37 (iX12_isPlace_39 (s_X12_in _ _ _) (iX12_isPlace_42 (fun h42 => ?_) (fun h42 => ?_)))))
      · refine iX12_isPlace_53 (iX12_isPlace_54 ?_ (nz01 (by first | exact f_in_01 | simp)))
        exact ⟨congrArg (fun z => some (Value.int z)) (by simp [f_place, *]), rfl, rfl, rfl⟩
      · refine iX12_isPlace_45 (iX12_isPlace_46 (fun h46 => ?_) (fun h46 => ?_))
        · refine iX12_isPlace_53 (iX12_isPlace_54 ?_ (nz01 (by first | exact f_in_01 | simp)))
          exact ⟨congrArg (fun z => some (Value.int z)) (by simp [f_place, *]), rfl, rfl, rfl⟩
        · refine iX12_isPlace_49 (iX12_isPlace_50 (iX12_isPlace_54 ?_ (nz01 (by first | exact f_in_01 | simp))))
          exact ⟨congrArg (fun z => some (Value.int z)) (by simp [f_place, *]), rfl, rfl, rfl⟩
    · refine iX12_isPlace_26 (iX12_isPlace_27 (iX12_isPlace_28 (s_X12_isSenator _) (iX12_isPlace_31 (iX12_isPlace_54 ?_ (nz01 (by first | exact f_in_01 | simp))))))
      exact ⟨congrArg (fun z => some (Value.int z)) (by simp [f_place, *]), rfl, rfl, rfl⟩
  · refine iX12_isPlace_9 (iX12_isPlace_10 (iX12_isPlace_11 (s_X12_isBill _) (iX12_isPlace_14 (iX12_isPlace_54 ?_ (nz01 (by first | exact f_in_01 | simp))))))
    exact ⟨congrArg (fun z => some (Value.int z)) (by simp [f_place, *]), rfl, rfl, rfl⟩
theorem s_X12_valueAt (n w : Int32) (h : Inv I J) (hp : ¬ f_has I n w = 0) : SpecF 0 M_X12_valueAt [.ref 57, .int w, .int n] xG1 I J (some (.int (I (7 + w.toNatClampNeg) n.toNatClampNeg))) I J := by
  obtain ⟨hh, hb, hse, hin, hch, hta, hle, him, hcl, hsh, hlw⟩ := h
  obtain ⟨a1, a2, a3, a4, a5, a6⟩ := hh
  obtain ⟨b1, b2, b3, b4, b5, b6, b7, b8, b9, b10⟩ := hin
  have hp' := hp
  unfold f_has at hp'
  have hn0 : 0 ≤ n := by grind
  refine specF_of (L := [some (.ref 57), some (.int w), some (.int n)]) (by decide) (Nat.le_of_ble_eq_true rfl) rfl ?_
  refine iX12_valueAt_0 (iX12_valueAt_1 (fun h1 => ?_) (fun h1 => ?_) (fun h1 => ?_) (fun h1 => ?_) (fun h1 => ?_) (fun h1 => ?_) (fun h1_0 h1_1 h1_2 h1_3 h1_4 h1_5 => ?_))
  · have hnn : n.toNatClampNeg < 10 := clamp_lt' (N := 10) (by decide) hn0 (by grind)
    have hbb := hb _ hnn
    refine iX12_valueAt_40 (iX12_valueAt_41 (iX12_valueAt_44 (iX12_valueAt_45 (vin 10 (by decide) (by grind) (by grind)) (iX12_valueAt_46 ?_))))
    subst h1
    exact ⟨congrArg (fun z => some (Value.int z)) (by simp only [hbb]; rfl), rfl, rfl, rfl⟩
  · have hnn : n.toNatClampNeg < 10 := clamp_lt' (N := 10) (by decide) hn0 (by grind)
    have hbb := hb _ hnn
    refine iX12_valueAt_47 (iX12_valueAt_48 (iX12_valueAt_51 (iX12_valueAt_52 (vin 10 (by decide) (by grind) (by grind)) (iX12_valueAt_53 ?_))))
    subst h1
    exact ⟨congrArg (fun z => some (Value.int z)) (by simp only [hbb]; rfl), rfl, rfl, rfl⟩
  · have hnn : n.toNatClampNeg < 10 := clamp_lt' (N := 10) (by decide) hn0 (by grind)
    have hbb := hb _ hnn
    refine iX12_valueAt_54 (iX12_valueAt_55 (iX12_valueAt_58 (iX12_valueAt_59 (vin 10 (by decide) (by grind) (by grind)) (iX12_valueAt_60 ?_))))
    subst h1
    exact ⟨congrArg (fun z => some (Value.int z)) (by simp only [hbb]; rfl), rfl, rfl, rfl⟩
  · have hnn : n.toNatClampNeg < 10 := clamp_lt' (N := 10) (by decide) hn0 (by grind)
    have hbb := hb _ hnn
    refine iX12_valueAt_61 (iX12_valueAt_62 (iX12_valueAt_65 (iX12_valueAt_66 (vin 10 (by decide) (by grind) (by grind)) (iX12_valueAt_67 ?_))))
    subst h1
    exact ⟨congrArg (fun z => some (Value.int z)) (by simp only [hbb]; rfl), rfl, rfl, rfl⟩
  · have hnn : n.toNatClampNeg < 6 := clamp_lt' (N := 6) (by decide) hn0 (by grind)
    have hbb := hse _ hnn
    refine iX12_valueAt_68 (iX12_valueAt_69 (iX12_valueAt_72 (iX12_valueAt_73 (vin 6 (by decide) (by grind) (by grind)) (iX12_valueAt_74 ?_))))
    subst h1
    exact ⟨congrArg (fun z => some (Value.int z)) (by simp only [hbb]; rfl), rfl, rfl, rfl⟩
  · have hnn : n.toNatClampNeg < 6 := clamp_lt' (N := 6) (by decide) hn0 (by grind)
    have hbb := hse _ hnn
    refine iX12_valueAt_75 (iX12_valueAt_76 (iX12_valueAt_79 (iX12_valueAt_80 (vin 6 (by decide) (by grind) (by grind)) (iX12_valueAt_81 ?_))))
    subst h1
    exact ⟨congrArg (fun z => some (Value.int z)) (by simp only [hbb]; rfl), rfl, rfl, rfl⟩
  · have hn : n = 0 := by grind
    have hw : w = 6 ∨ w = 7 ∨ w = 8 ∨ w = 9 := by grind
    refine iX12_valueAt_82 (iX12_valueAt_83 (iX12_valueAt_86 (iX12_valueAt_87 (iX12_valueAt_89 (iX12_valueAt_90 (vin 4 (by decide) (by grind) (by grind)) (iX12_valueAt_91 ?_))))))
    subst hn
    rcases hw with rfl | rfl | rfl | rfl
    · exact ⟨congrArg (fun z => some (Value.int z)) b1, rfl, rfl, rfl⟩
    · exact ⟨congrArg (fun z => some (Value.int z)) b2, rfl, rfl, rfl⟩
    · exact ⟨congrArg (fun z => some (Value.int z)) b3, rfl, rfl, rfl⟩
    · exact ⟨congrArg (fun z => some (Value.int z)) b4, rfl, rfl, rfl⟩
end
theorem pp_of : PP_of Inv := by
  intro I J h n w
  obtain ⟨hh, hb, hse, hin, hch, hta, hle, him, hcl, hsh, hlw⟩ := id h
  obtain ⟨a1, a2, a3, a4, a5, a6⟩ := id hh
  have hB : I 1 2 ≤ 10 := a4
  have hS : I 1 3 ≤ 6 := a6
  have hpl := f_place_has hh n w
  by_cases hp : f_has I n w = 0
  · refine pair_of (v := -2000000000) (v' := -2000000000) (I1 := I) (I2 := I) (J1 := J) (J2 := J) ?_ ?_ rfl h
    · refine specF_of (L := [some (.ref 0), some (.int n), some (.int w)]) (by decide) (Nat.le_of_ble_eq_true rfl) rfl ?_
      refine iX11_of_0 (iX11_of_1 (iX11_of_4 (iX11_of_5 (iX11_of_6 (s_X5_has _ _) (iX11_of_9 (fun h9 => ?_) (fun h9 => ?_))))))
      · refine iX11_of_24 (iX11_of_26 ?_)
        first | exact ⟨rfl, rfl, rfl, rfl⟩ | (exfalso; (try simp only [f_in] at *); grind)
      · refine iX11_of_12 (iX11_of_13 (iX11_of_16 (iX11_of_17 (iX11_of_18 (s_X5_get _ _ hB hS) (iX11_of_21 (iX11_of_26 ?_))))))
        first | exact ⟨rfl, rfl, rfl, rfl⟩ | (exfalso; (try simp only [f_in] at *); grind)
    · refine specF_of (L := [some (.ref 57), some (.int n), some (.int w)]) (by decide) (Nat.le_of_ble_eq_true rfl) rfl ?_
      refine iX12_of_0 (iX12_of_1 (iX12_of_2 (iX12_of_3 (s_X12_isPlace _ _) (iX12_of_6 (fun h6 => ?_) (fun h6 => ?_)))))
      · refine iX12_of_18 (iX12_of_20 ?_)
        first | exact ⟨rfl, rfl, rfl, rfl⟩ | (exfalso; (try simp only [f_in] at *); grind)
      · exfalso
        grind
  · refine pair_of (v := I (7 + w.toNatClampNeg) n.toNatClampNeg) (v' := I (7 + w.toNatClampNeg) n.toNatClampNeg) (I1 := I) (I2 := I) (J1 := J) (J2 := J) ?_ ?_ rfl h
    · refine specF_of (L := [some (.ref 0), some (.int n), some (.int w)]) (by decide) (Nat.le_of_ble_eq_true rfl) rfl ?_
      refine iX11_of_0 (iX11_of_1 (iX11_of_4 (iX11_of_5 (iX11_of_6 (s_X5_has _ _) (iX11_of_9 (fun h9 => ?_) (fun h9 => ?_))))))
      · refine iX11_of_24 (iX11_of_26 ?_)
        first | (exfalso; grind) | exact ⟨congrArg (fun z => some (Value.int z)) (by simp [f_get, hp]), rfl, rfl, rfl⟩
      · refine iX11_of_12 (iX11_of_13 (iX11_of_16 (iX11_of_17 (iX11_of_18 (s_X5_get _ _ hB hS) (iX11_of_21 (iX11_of_26 ?_))))))
        first | (exfalso; grind) | exact ⟨congrArg (fun z => some (Value.int z)) (by simp [f_get, hp]), rfl, rfl, rfl⟩
    · refine specF_of (L := [some (.ref 57), some (.int n), some (.int w)]) (by decide) (Nat.le_of_ble_eq_true rfl) rfl ?_
      refine iX12_of_0 (iX12_of_1 (iX12_of_2 (iX12_of_3 (s_X12_isPlace _ _) (iX12_of_6 (fun h6 => ?_) (fun h6 => ?_)))))
      · refine iX12_of_18 (iX12_of_20 ?_)
        first | exact ⟨rfl, rfl, rfl, rfl⟩ | (exfalso; grind)
      · refine iX12_of_9 (iX12_of_10 (iX12_of_11 (iX12_of_12 (s_X12_valueAt _ _ h hp) (iX12_of_15 (iX12_of_20 ?_)))))
        first | exact ⟨rfl, rfl, rfl, rfl⟩ | (exfalso; grind)
theorem pp_led : PP_led Inv := by
  intro I J h w
  obtain ⟨hh, hb, hse, hin, hch, hta, hle, him, hcl, hsh, hlw⟩ := id h
  by_cases hp : 0 ≤ w ∧ w < 6
  · have e := hle _ (clamp_lt' (x := w) (N := 6) (n := 6) (by decide) hp.1 hp.2)
    refine pair_of (v := I 38 w.toNatClampNeg) (v' := I 82 w.toNatClampNeg) (I1 := I) (I2 := I) (J1 := J) (J2 := J) ?_ ?_ e h
    · refine specF_of (L := [some (.ref 0), some (.int w)]) (by decide) (Nat.le_of_ble_eq_true rfl) rfl ?_
      refine iX11_led_0 (iX11_led_1 (fun h1 => ?_) (fun h1 => ?_))
      · refine iX11_led_10 (iX11_led_11 (iX11_led_22 ?_))
        first | (exfalso; grind) | exact ⟨congrArg (fun z => some (Value.int z)) (by simp [hp]), rfl, rfl, rfl⟩
      · refine iX11_led_4 (iX11_led_5 (iX11_led_7 (fun h7 => ?_) (fun h7 => ?_)))
        · refine iX11_led_14 (iX11_led_15 (iX11_led_18 (iX11_led_19 (s_X4_done _) (iX11_led_22 ?_))))
          first | (exfalso; grind) | exact ⟨congrArg (fun z => some (Value.int z)) (by simp [hp]), rfl, rfl, rfl⟩
        · refine iX11_led_10 (iX11_led_11 (iX11_led_22 ?_))
          first | (exfalso; grind) | exact ⟨congrArg (fun z => some (Value.int z)) (by simp [hp]), rfl, rfl, rfl⟩
    · refine specF_of (L := [some (.ref 57), some (.int w)]) (by decide) (Nat.le_of_ble_eq_true rfl) rfl ?_
      refine iX12_led_0 (iX12_led_1 (iX12_led_2 (iX12_led_3 (s_X12_in _ _ _) (iX12_led_6 (fun h6 => ?_) (fun h6 => ?_)))))
      · refine iX12_led_18 (iX12_led_19 ?_)
        first | exact ⟨rfl, rfl, rfl, rfl⟩ | (exfalso; simp only [f_in] at *; grind)
      · refine iX12_led_9 (iX12_led_10 (iX12_led_13 (iX12_led_14 (vin 6 (by decide) (by grind) (by grind)) (iX12_led_15 (iX12_led_19 ?_)))))
        first | exact ⟨rfl, rfl, rfl, rfl⟩ | (exfalso; simp only [f_in] at *; grind)
  · refine pair_of (v := -1) (v' := -1) (I1 := I) (I2 := I) (J1 := J) (J2 := J) ?_ ?_ rfl h
    · refine specF_of (L := [some (.ref 0), some (.int w)]) (by decide) (Nat.le_of_ble_eq_true rfl) rfl ?_
      refine iX11_led_0 (iX11_led_1 (fun h1 => ?_) (fun h1 => ?_))
      · refine iX11_led_10 (iX11_led_11 (iX11_led_22 ?_))
        first | exact ⟨rfl, rfl, rfl, rfl⟩ | (exfalso; (try simp only [f_in] at *); grind)
      · refine iX11_led_4 (iX11_led_5 (iX11_led_7 (fun h7 => ?_) (fun h7 => ?_)))
        · refine iX11_led_14 (iX11_led_15 (iX11_led_18 (iX11_led_19 (s_X4_done _) (iX11_led_22 ?_))))
          first | exact ⟨rfl, rfl, rfl, rfl⟩ | (exfalso; (try simp only [f_in] at *); grind)
        · refine iX11_led_10 (iX11_led_11 (iX11_led_22 ?_))
          first | exact ⟨rfl, rfl, rfl, rfl⟩ | (exfalso; (try simp only [f_in] at *); grind)
    · refine specF_of (L := [some (.ref 57), some (.int w)]) (by decide) (Nat.le_of_ble_eq_true rfl) rfl ?_
      refine iX12_led_0 (iX12_led_1 (iX12_led_2 (iX12_led_3 (s_X12_in _ _ _) (iX12_led_6 (fun h6 => ?_) (fun h6 => ?_)))))
      · refine iX12_led_18 (iX12_led_19 ?_)
        first | exact ⟨rfl, rfl, rfl, rfl⟩ | (exfalso; (try simp only [f_in] at *); grind)
      · exfalso
        simp only [f_in] at *
        grind
theorem pp_trace : PP_trace Inv := by
  intro I J h w
  obtain ⟨hh, hb, hse, hin, hch, hta, hle, him, hcl, hsh, hlw⟩ := id h
  obtain ⟨c1, c2, c3, c4, c5, c6, c7, c8⟩ := id hcl
  by_cases hp : 0 ≤ w ∧ w < 24 ∧ w < I 41 3
  · have hk := clamp_lt' (x := w) (N := 24) (n := 24) (by decide) hp.1 hp.2.1
    have e := c8 _ hk (by rw [clamp_nI hp.1]; exact hp.2.2)
    refine pair_of (v := I 43 w.toNatClampNeg) (v' := I 86 w.toNatClampNeg) (I1 := I) (I2 := I) (J1 := J) (J2 := J) ?_ ?_ e h
    · refine specF_of (L := [some (.ref 0), some (.int w)]) (by decide) (Nat.le_of_ble_eq_true rfl) rfl ?_
      refine iX11_trace_0 (iX11_trace_1 (iX11_trace_4 (iX11_trace_5 (s_X3_traceAt _ hcl) (iX11_trace_8 ?_))))
      exact ⟨congrArg (fun z => some (Value.int z)) (by simp only [hp, and_self, if_true]), rfl, rfl, rfl⟩
    · refine specF_of (L := [some (.ref 57), some (.int w)]) (by decide) (Nat.le_of_ble_eq_true rfl) rfl ?_
      refine iX12_trace_0 (iX12_trace_1 (fun h1 => ?_) (fun h1 => ?_))
      · refine iX12_trace_27 (iX12_trace_28 ?_)
        first | exact ⟨rfl, rfl, rfl, rfl⟩ | (exfalso; grind)
      · refine iX12_trace_4 (iX12_trace_5 (iX12_trace_6 (iX12_trace_9 (fun h9 => ?_) (fun h9 => ?_))))
        · refine iX12_trace_27 (iX12_trace_28 ?_)
          first | exact ⟨rfl, rfl, rfl, rfl⟩ | (exfalso; grind)
        · refine iX12_trace_12 (iX12_trace_13 (iX12_trace_15 (fun h15 => ?_) (fun h15 => ?_)))
          · refine iX12_trace_27 (iX12_trace_28 ?_)
            first | exact ⟨rfl, rfl, rfl, rfl⟩ | (exfalso; grind)
          · refine iX12_trace_18 (iX12_trace_19 (iX12_trace_22 (iX12_trace_23 (vin 24 (by decide) (by grind) (by grind)) (iX12_trace_24 (iX12_trace_28 ?_)))))
            first | exact ⟨rfl, rfl, rfl, rfl⟩ | (exfalso; grind)
  · refine pair_of (v := -1) (v' := -1) (I1 := I) (I2 := I) (J1 := J) (J2 := J) ?_ ?_ rfl h
    · refine specF_of (L := [some (.ref 0), some (.int w)]) (by decide) (Nat.le_of_ble_eq_true rfl) rfl ?_
      refine iX11_trace_0 (iX11_trace_1 (iX11_trace_4 (iX11_trace_5 (s_X3_traceAt _ hcl) (iX11_trace_8 ?_))))
      exact ⟨congrArg (fun z => some (Value.int z)) (by simp only [hp, if_false]), rfl, rfl, rfl⟩
    · refine specF_of (L := [some (.ref 57), some (.int w)]) (by decide) (Nat.le_of_ble_eq_true rfl) rfl ?_
      refine iX12_trace_0 (iX12_trace_1 (fun h1 => ?_) (fun h1 => ?_))
      · refine iX12_trace_27 (iX12_trace_28 ?_)
        first | exact ⟨rfl, rfl, rfl, rfl⟩ | (exfalso; grind)
      · refine iX12_trace_4 (iX12_trace_5 (iX12_trace_6 (iX12_trace_9 (fun h9 => ?_) (fun h9 => ?_))))
        · refine iX12_trace_27 (iX12_trace_28 ?_)
          first | exact ⟨rfl, rfl, rfl, rfl⟩ | (exfalso; grind)
        · refine iX12_trace_12 (iX12_trace_13 (iX12_trace_15 (fun h15 => ?_) (fun h15 => ?_)))
          · refine iX12_trace_27 (iX12_trace_28 ?_)
            first | exact ⟨rfl, rfl, rfl, rfl⟩ | (exfalso; grind)
          · refine iX12_trace_18 (iX12_trace_19 (iX12_trace_22 (iX12_trace_23 (vin 24 (by decide) (by grind) (by grind)) (iX12_trace_24 (iX12_trace_28 ?_)))))
            first | exact ⟨rfl, rfl, rfl, rfl⟩ | (exfalso; grind)
theorem pp_count : PP_count Inv := by
  intro I J h w
  obtain ⟨hh, hb, hse, hin, hch, hta, hle, him, hcl, hsh, hlw⟩ := id h
  have e1 := hh.1
  have e2 := hh.2.1
  have e3 := hta.1
  have e4 := hch.1
  have e5 := hcl.1
  have e6 := hcl.2.2.2.2.1
  refine pair_of (v := if w = 0 then I 1 2 else if w = 1 then I 1 3 else if w = 2 then I 17 2 else if w = 3 then I 20 5 else if w = 4 then I 41 2 else if w = 5 then I 41 3 else -1) (v' := if w = 0 then I 57 1 else if w = 1 then I 57 6 else if w = 2 then I 57 17 else if w = 3 then I 57 10 else if w = 4 then I 57 45 else if w = 5 then I 57 47 else -1) (I1 := I) (I2 := I) (J1 := J) (J2 := J) ?_ ?_ (by rw [e1, e2, e3, e4, e5, e6]) h
  · refine specF_of (L := [some (.ref 0), some (.int w)]) (by decide) (Nat.le_of_ble_eq_true rfl) rfl ?_
    refine iX11_count_0 (iX11_count_1 (fun h1 => ?_) (fun h1 => ?_) (fun h1 => ?_) (fun h1 => ?_) (fun h1 => ?_) (fun h1 => ?_) (fun h1_0 h1_1 h1_2 h1_3 h1_4 h1_5 => ?_))
    · refine iX11_count_40 (iX11_count_41 (iX11_count_44 s_X5_billCount (iX11_count_47 ?_)))
      exact ⟨congrArg (fun z => some (Value.int z)) (by simp [*]), rfl, rfl, rfl⟩
    · refine iX11_count_48 (iX11_count_49 (iX11_count_52 s_X5_senatorCount (iX11_count_55 ?_)))
      exact ⟨congrArg (fun z => some (Value.int z)) (by simp [*]), rfl, rfl, rfl⟩
    · refine iX11_count_56 (iX11_count_57 (iX11_count_60 s_X10_length (iX11_count_63 ?_)))
      exact ⟨congrArg (fun z => some (Value.int z)) (by simp [*]), rfl, rfl, rfl⟩
    · refine iX11_count_64 (iX11_count_65 (iX11_count_68 s_X2_behind (iX11_count_71 ?_)))
      exact ⟨congrArg (fun z => some (Value.int z)) (by simp [*]), rfl, rfl, rfl⟩
    · refine iX11_count_72 (iX11_count_73 (iX11_count_76 s_X3_size (iX11_count_79 ?_)))
      exact ⟨congrArg (fun z => some (Value.int z)) (by simp [*]), rfl, rfl, rfl⟩
    · refine iX11_count_80 (iX11_count_81 (iX11_count_84 s_X3_ran (iX11_count_87 ?_)))
      exact ⟨congrArg (fun z => some (Value.int z)) (by simp [*]), rfl, rfl, rfl⟩
    · refine iX11_count_88 (iX11_count_89 ?_)
      exact ⟨congrArg (fun z => some (Value.int z)) (by simp [*]), rfl, rfl, rfl⟩
  · refine specF_of (L := [some (.ref 57), some (.int w)]) (by decide) (Nat.le_of_ble_eq_true rfl) rfl ?_
    refine iX12_count_0 (iX12_count_1 (fun h1 => ?_) (fun h1 => ?_) (fun h1 => ?_) (fun h1 => ?_) (fun h1 => ?_) (fun h1 => ?_) (fun h1_0 h1_1 h1_2 h1_3 h1_4 h1_5 => ?_))
    · refine iX12_count_40 (iX12_count_41 (iX12_count_44 ?_))
      exact ⟨congrArg (fun z => some (Value.int z)) (by clear e1 e2 e3 e4 e5 e6; simp [*]), rfl, rfl, rfl⟩
    · refine iX12_count_45 (iX12_count_46 (iX12_count_49 ?_))
      exact ⟨congrArg (fun z => some (Value.int z)) (by clear e1 e2 e3 e4 e5 e6; simp [*]), rfl, rfl, rfl⟩
    · refine iX12_count_50 (iX12_count_51 (iX12_count_54 ?_))
      exact ⟨congrArg (fun z => some (Value.int z)) (by clear e1 e2 e3 e4 e5 e6; simp [*]), rfl, rfl, rfl⟩
    · refine iX12_count_55 (iX12_count_56 (iX12_count_59 ?_))
      exact ⟨congrArg (fun z => some (Value.int z)) (by clear e1 e2 e3 e4 e5 e6; simp [*]), rfl, rfl, rfl⟩
    · refine iX12_count_60 (iX12_count_61 (iX12_count_64 ?_))
      exact ⟨congrArg (fun z => some (Value.int z)) (by clear e1 e2 e3 e4 e5 e6; simp [*]), rfl, rfl, rfl⟩
    · refine iX12_count_65 (iX12_count_66 (iX12_count_69 ?_))
      exact ⟨congrArg (fun z => some (Value.int z)) (by clear e1 e2 e3 e4 e5 e6; simp [*]), rfl, rfl, rfl⟩
    · refine iX12_count_70 (iX12_count_71 ?_)
      exact ⟨congrArg (fun z => some (Value.int z)) (by clear e1 e2 e3 e4 e5 e6; simp [*]), rfl, rfl, rfl⟩
