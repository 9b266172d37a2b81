theorem xt_1 {w : Cond} (i : Nat) (h : tables_1_1[i]? = some w) (hg : goodWord w = true) : w ∈ xtb := xtb_lw (List.mem_append_right _ (List.mem_append_left _ (List.mem_of_getElem? h))) hg
theorem xt_2 {w : Cond} (i : Nat) (h : tables_1_2[i]? = some w) (hg : goodWord w = true) : w ∈ xtb := xtb_lw (List.mem_append_right _ (List.mem_append_right _ (List.mem_append_left _ (List.mem_of_getElem? h)))) hg
theorem xt_3 {w : Cond} (i : Nat) (h : tables_1_3[i]? = some w) (hg : goodWord w = true) : w ∈ xtb := xtb_lw (List.mem_append_right _ (List.mem_append_right _ (List.mem_append_right _ (List.mem_append_left _ (List.mem_of_getElem? h))))) hg
theorem xt_4 {w : Cond} (i : Nat) (h : tables_1_4[i]? = some w) (hg : goodWord w = true) : w ∈ xtb := xtb_lw (List.mem_append_right _ (List.mem_append_right _ (List.mem_append_right _ (List.mem_append_right _ (List.mem_append_left _ (List.mem_of_getElem? h)))))) hg
theorem xt_5 {w : Cond} (i : Nat) (h : tables_1_5[i]? = some w) (hg : goodWord w = true) : w ∈ xtb := xtb_lw (List.mem_append_right _ (List.mem_append_right _ (List.mem_append_right _ (List.mem_append_right _ (List.mem_append_right _ (List.mem_append_left _ (List.mem_of_getElem? h))))))) hg
theorem xt_6 {w : Cond} (i : Nat) (h : tables_1_6[i]? = some w) (hg : goodWord w = true) : w ∈ xtb := xtb_lw (List.mem_append_right _ (List.mem_append_right _ (List.mem_append_right _ (List.mem_append_right _ (List.mem_append_right _ (List.mem_append_right _ (List.mem_append_left _ (List.mem_of_getElem? h)))))))) hg
theorem xt_7 {w : Cond} (i : Nat) (h : tables_1_7[i]? = some w) (hg : goodWord w = true) : w ∈ xtb := xtb_lw (List.mem_append_right _ (List.mem_append_right _ (List.mem_append_right _ (List.mem_append_right _ (List.mem_append_right _ (List.mem_append_right _ (List.mem_append_right _ (List.mem_of_getElem? h)))))))) hg
def xTB (t : Nat) : List Int32 := ((xST[t]?).map (fun q => q.2.2)).getD []
/-- the world behind the two makings -/
def xG1 : xG := ([(11, 10), (5, 4), (6, 4), (100, 121), (100, 6), (100, 64), (105, 10), (100, 10), (100, 10), (100, 10), (100, 10), (100, 10), (100, 10), (100, 10), (100, 10), (100, 10), (100, 10), (10, 5), (100, 120), (100, 121), (2, 7), (100, 40), (100, 40), (100, 40), (100, 40), (0, 5), (100, 10), (101, 11), (100, 11), (8, 6), (100, 5), (100, 5), (1, 2), (101, 10), (7, 5), (100, 10), (100, 10), (4, 5), (100, 6), (100, 6), (100, 4), (3, 6), (100, 50), (100, 24), (106, 6), (9, 5), (101, 60), (9, 5), (101, 60), (9, 5), (101, 60), (9, 5), (101, 60), (9, 5), (101, 60), (9, 5), (101, 60), (12, 53), (100, 10), (100, 10), (100, 10), (100, 10), (100, 6), (100, 6), (100, 4), (100, 40), (100, 40), (100, 40), (100, 40), (102, 120), (102, 260), (100, 260), (100, 2), (103, 122), (103, 122), (100, 6), (100, 130), (100, 10), (101, 96), (101, 96), (100, 5), (101, 10), (100, 6), (100, 4), (100, 6), (100, 50), (100, 24), (100, 6), (100, 6), (101, 360), (101, 60)], [(57, 52, 90), (57, 51, 89), (57, 50, 88), (57, 49, 87), (57, 48, 86), (57, 46, 85), (57, 44, 84), (57, 43, 83), (57, 41, 82), (57, 40, 81), (57, 37, 80), (57, 33, 79), (57, 32, 78), (57, 30, 77), (57, 28, 76), (57, 27, 75), (57, 26, 74), (57, 25, 73), (57, 24, 72), (57, 23, 71), (57, 22, 70), (57, 16, 69), (57, 15, 68), (57, 14, 67), (57, 13, 66), (57, 12, 65), (57, 9, 64), (57, 8, 63), (57, 7, 62), (57, 5, 61), (57, 4, 60), (57, 3, 59), (57, 2, 58), (44, 5, 55), (55, 0, 56), (44, 4, 53), (53, 0, 54), (44, 3, 51), (51, 0, 52), (44, 2, 49), (49, 0, 50), (44, 1, 47), (47, 0, 48), (44, 0, 45), (45, 0, 46), (0, 9, 44), (0, 8, 41), (41, 1, 43), (41, 0, 42), (0, 7, 37), (37, 0, 1), (37, 3, 40), (37, 2, 39), (37, 1, 38), (0, 6, 34), (34, 0, 1), (34, 2, 36), (34, 1, 35), (0, 5, 32), (32, 0, 1), (32, 1, 33), (0, 4, 29), (29, 1, 25), (29, 0, 1), (29, 3, 31), (29, 2, 30), (0, 3, 25), (25, 0, 1), (25, 3, 28), (25, 2, 27), (25, 1, 26), (0, 2, 20), (20, 0, 1), (20, 4, 24), (20, 3, 23), (20, 2, 22), (20, 1, 21), (0, 1, 17), (17, 1, 19), (17, 0, 18), (0, 0, 1), (1, 1, 6), (6, 0, 7), (6, 1, 8), (6, 2, 9), (6, 3, 10), (6, 4, 11), (6, 5, 12), (6, 6, 13), (6, 7, 14), (6, 8, 15), (6, 9, 16), (1, 0, 2), (2, 2, 5), (2, 1, 4), (2, 0, 3)])
abbrev SpecF (d : Nat) (M : xM) (av : List Value) (g : xG) (I : xI) (J : xJ) (r : Option Value) (I' : xI) (J' : xJ) : Prop := Spec d (1000000, 0, 0) M av g I J (fun r2 g2 I2 J2 => r2 = r ∧ g2 = g ∧ I2 = I' ∧ J2 = J')
theorem xput_0 {L : List (Option Value)} {v : Value} : xput L (L.set 0 (some v)) 0 v := by
  intro k x h
  by_cases hk : k = 0
  · subst hk
    cases L with
    | nil => simp at h
    | cons a l => simp at h; exact Or.inl ⟨rfl, h.symm⟩
  · rw [List.getElem?_set_ne (Ne.symm hk)] at h
    exact Or.inr ⟨hk, h, fun q => by omega⟩
theorem xput_s {L : List (Option Value)} {v : Value} {i : Nat} (o : Option Value) (ho : L[i]? = some o) (h1 : xn2 o) : xput L (L.set (i + 1) (some v)) (i + 1) v := by
  intro k x h
  by_cases hk : k = i + 1
  · subst hk
    by_cases hl : i + 1 < L.length
    · rw [List.getElem?_set_self hl] at h
      cases h
      exact Or.inl ⟨rfl, rfl⟩
    · rw [List.getElem?_eq_none (by rw [List.length_set]; omega)] at h
      cases h
  · rw [List.getElem?_set_ne (Ne.symm hk)] at h
    refine Or.inr ⟨hk, h, fun q => ?_⟩
    have hki : k = i := by omega
    subst hki
    rw [h] at ho
    cases ho
    exact h1
theorem xput2_of {L : List (Option Value)} {v : Value} {i : Nat} (h : xput L (L.set i (some v)) i v) : xput2 L ((L.set i (some v)).set (i + 1) none) i v := by
  intro k x hx
  by_cases hk : k = i + 1
  · subst hk
    by_cases hl : i + 1 < (L.set i (some v)).length
    · rw [List.getElem?_set_self hl] at hx
      cases hx
    · rw [List.getElem?_eq_none (by rw [List.length_set]; omega)] at hx
      cases hx
  · rw [List.getElem?_set_ne (Ne.symm hk)] at hx
    rcases h k x hx with ⟨h1, h2⟩ | ⟨h1, h2, h3⟩
    · exact Or.inl ⟨h1, h2⟩
    · exact Or.inr ⟨h1, hk, h2, h3⟩
theorem xput2_0 {L : List (Option Value)} {v : Value} : xput2 L ((L.set 0 (some v)).set 1 none) 0 v := xput2_of xput_0
theorem xput2_s {L : List (Option Value)} {v : Value} {i : Nat} (o : Option Value) (ho : L[i]? = some o) (h1 : xn2 o) : xput2 L ((L.set (i + 1) (some v)).set (i + 2) none) (i + 1) v := xput2_of (xput_s o ho h1)
theorem in_RX0 : ∀ w ∈ u_ws RX0 TX0 5, w ∈ xtb := fun w hw => xtb_lw (List.mem_append_right _ ((by decide +kernel : ∀ w ∈ u_ws RX0 TX0 5, w ∈ tables_1) w hw)) ((by decide +kernel : ∀ w ∈ u_ws RX0 TX0 5, goodWord w = true) w hw)
theorem in_RX1 : ∀ w ∈ u_ws RX1 TX1 2, w ∈ xtb := fun w hw => xtb_lw (List.mem_append_right _ ((by decide +kernel : ∀ w ∈ u_ws RX1 TX1 2, w ∈ tables_1) w hw)) ((by decide +kernel : ∀ w ∈ u_ws RX1 TX1 2, goodWord w = true) w hw)
theorem in_RX2 : ∀ w ∈ u_ws RX2 TX2 7, w ∈ xtb := fun w hw => xtb_lw (List.mem_append_right _ ((by decide +kernel : ∀ w ∈ u_ws RX2 TX2 7, w ∈ tables_1) w hw)) ((by decide +kernel : ∀ w ∈ u_ws RX2 TX2 7, goodWord w = true) w hw)
theorem in_RX3 : ∀ w ∈ u_ws RX3 TX3 6, w ∈ xtb := fun w hw => xtb_lw (List.mem_append_right _ ((by decide +kernel : ∀ w ∈ u_ws RX3 TX3 6, w ∈ tables_1) w hw)) ((by decide +kernel : ∀ w ∈ u_ws RX3 TX3 6, goodWord w = true) w hw)
theorem in_RX4 : ∀ w ∈ u_ws RX4 TX4 5, w ∈ xtb := fun w hw => xtb_lw (List.mem_append_right _ ((by decide +kernel : ∀ w ∈ u_ws RX4 TX4 5, w ∈ tables_1) w hw)) ((by decide +kernel : ∀ w ∈ u_ws RX4 TX4 5, goodWord w = true) w hw)
theorem in_RX5 : ∀ w ∈ u_ws RX5 TX5 4, w ∈ xtb := fun w hw => xtb_lw (List.mem_append_right _ ((by decide +kernel : ∀ w ∈ u_ws RX5 TX5 4, w ∈ tables_1) w hw)) ((by decide +kernel : ∀ w ∈ u_ws RX5 TX5 4, goodWord w = true) w hw)
theorem in_RX6 : ∀ w ∈ u_ws RX6 TX6 4, w ∈ xtb := fun w hw => xtb_lw (List.mem_append_right _ ((by decide +kernel : ∀ w ∈ u_ws RX6 TX6 4, w ∈ tables_1) w hw)) ((by decide +kernel : ∀ w ∈ u_ws RX6 TX6 4, goodWord w = true) w hw)
theorem in_RX7 : ∀ w ∈ u_ws RX7 TX7 5, w ∈ xtb := fun w hw => xtb_lw (List.mem_append_right _ ((by decide +kernel : ∀ w ∈ u_ws RX7 TX7 5, w ∈ tables_1) w hw)) ((by decide +kernel : ∀ w ∈ u_ws RX7 TX7 5, goodWord w = true) w hw)
theorem in_RX8 : ∀ w ∈ u_ws RX8 TX8 6, w ∈ xtb := fun w hw => xtb_lw (List.mem_append_right _ ((by decide +kernel : ∀ w ∈ u_ws RX8 TX8 6, w ∈ tables_1) w hw)) ((by decide +kernel : ∀ w ∈ u_ws RX8 TX8 6, goodWord w = true) w hw)
theorem in_RX9 : ∀ w ∈ u_ws RX9 TX9 5, w ∈ xtb := fun w hw => xtb_lw (List.mem_append_right _ ((by decide +kernel : ∀ w ∈ u_ws RX9 TX9 5, w ∈ tables_1) w hw)) ((by decide +kernel : ∀ w ∈ u_ws RX9 TX9 5, goodWord w = true) w hw)
theorem in_RX10 : ∀ w ∈ u_ws RX10 TX10 5, w ∈ xtb := fun w hw => xtb_lw (List.mem_append_right _ ((by decide +kernel : ∀ w ∈ u_ws RX10 TX10 5, w ∈ tables_1) w hw)) ((by decide +kernel : ∀ w ∈ u_ws RX10 TX10 5, goodWord w = true) w hw)
theorem in_RX11 : ∀ w ∈ u_ws RX11 TX11 10, w ∈ xtb := fun w hw => xtb_lw (List.mem_append_right _ ((by decide +kernel : ∀ w ∈ u_ws RX11 TX11 10, w ∈ tables_1) w hw)) ((by decide +kernel : ∀ w ∈ u_ws RX11 TX11 10, goodWord w = true) w hw)
theorem in_RX12 : ∀ w ∈ u_ws RX12 TX12 53, w ∈ xtb := fun w hw => xtb_lw (List.mem_append_right _ ((by decide +kernel : ∀ w ∈ u_ws RX12 TX12 53, w ∈ tables_1) w hw)) ((by decide +kernel : ∀ w ∈ u_ws RX12 TX12 53, goodWord w = true) w hw)
def M_X0_init : xM := (yX0_init, cX0_init, 2, none)
def M_X0_size : xM := (yX0_size, cX0_size, 1, (some .int))
def M_X0_take : xM := (yX0_take, cX0_take, 4, none)
def M_X0_tell : xM := (yX0_tell, cX0_tell, 3, none)
def M_X0_begin : xM := (yX0_begin, cX0_begin, 1, none)
def M_X0_step : xM := (yX0_step, cX0_step, 9, (some .long))
def M_X0_passing : xM := (yX0_passing, cX0_passing, 5, (some .long))
def M_X0_quietFrom : xM := (yX0_quietFrom, cX0_quietFrom, 6, (some .long))
def M_X0_worthOf : xM := (yX0_worthOf, cX0_worthOf, 5, (some .long))
def M_X0_drawnYears : xM := (yX0_drawnYears, cX0_drawnYears, 13, (some .int))
def M_X0_gain : xM := (yX0_gain, cX0_gain, 3, (some .int))
def M_X1_init : xM := (yX1_init, cX1_init, 2, none)
def M_X1_weigh : xM := (yX1_weigh, cX1_weigh, 6, none)
def M_X1_weight : xM := (yX1_weight, cX1_weight, 11, (some .long))
def M_X1_possible : xM := (yX1_possible, cX1_possible, 3, (some .int))
def M_X1_likeliest : xM := (yX1_likeliest, cX1_likeliest, 5, (some .int))
def M_X1_most : xM := (yX1_most, cX1_most, 2, (some .long))
def M_X1_together : xM := (yX1_together, cX1_together, 4, (some .long))
def M_X1_difference : xM := (yX1_difference, cX1_difference, 6, (some .int))
def M_X2_init : xM := (yX2_init, cX2_init, 2, none)
def M_X2_behind : xM := (yX2_behind, cX2_behind, 1, (some .int))
def M_X2_ahead : xM := (yX2_ahead, cX2_ahead, 1, (some .int))
def M_X2_make : xM := (yX2_make, cX2_make, 4, none)
def M_X2_forgetFirst : xM := (yX2_forgetFirst, cX2_forgetFirst, 1, none)
def M_X2_goBack : xM := (yX2_goBack, cX2_goBack, 1, (some .boolean))
def M_X2_goOn : xM := (yX2_goOn, cX2_goOn, 1, (some .boolean))
def M_X3_init : xM := (yX3_init, cX3_init, 1, none)
def M_X3_isKind : xM := (yX3_isKind, cX3_isKind, 1, (some .boolean))
def M_X3_isUnder : xM := (yX3_isUnder, cX3_isUnder, 4, (some .boolean))
def M_X3_size : xM := (yX3_size, cX3_size, 1, (some .int))
def M_X3_ran : xM := (yX3_ran, cX3_ran, 1, (some .int))
def M_X3_has : xM := (yX3_has, cX3_has, 2, (some .boolean))
def M_X3_kindOf : xM := (yX3_kindOf, cX3_kindOf, 2, (some .int))
def M_X3_add : xM := (yX3_add, cX3_add, 2, (some .int))
def M_X3_traceAt : xM := (yX3_traceAt, cX3_traceAt, 2, (some .int))
def M_X3_perform : xM := (yX3_perform, cX3_perform, 4, (some .int))
def M_X3_holder : xM := (yX3_holder, cX3_holder, 4, (some .int))
def M_X3_note : xM := (yX3_note, cX3_note, 2, none)
def M_X3_run : xM := (yX3_run, cX3_run, 9, (some .int))
def M_X4_init : xM := (yX4_init, cX4_init, 2, none)
def M_X4_drawBehind : xM := (yX4_drawBehind, cX4_drawBehind, 1, (some .int))
def M_X4_cries : xM := (yX4_cries, cX4_cries, 2, (some .boolean))
def M_X4_done : xM := (yX4_done, cX4_done, 2, (some .int))
def M_X4_hear : xM := (yX4_hear, cX4_hear, 5, (some .int))
def M_X4_nourish : xM := (yX4_nourish, cX4_nourish, 2, (some .int))
def M_X4_bringIn : xM := (yX4_bringIn, cX4_bringIn, 3, (some .int))
def M_X4_letPass : xM := (yX4_letPass, cX4_letPass, 2, (some .int))
def M_X4_picture : xM := (yX4_picture, cX4_picture, 2, none)
def M_X4_layBack : xM := (yX4_layBack, cX4_layBack, 2, (some .boolean))
def M_X5_init : xM := (yX5_init, cX5_init, 1, none)
def M_X5_billCount : xM := (yX5_billCount, cX5_billCount, 1, (some .int))
def M_X5_senatorCount : xM := (yX5_senatorCount, cX5_senatorCount, 1, (some .int))
def M_X5_addBill : xM := (yX5_addBill, cX5_addBill, 4, (some .int))
def M_X5_addSenator : xM := (yX5_addSenator, cX5_addSenator, 3, (some .int))
def M_X5_has : xM := (yX5_has, cX5_has, 3, (some .boolean))
def M_X5_may : xM := (yX5_may, cX5_may, 2, (some .boolean))
def M_X5_get : xM := (yX5_get, cX5_get, 3, (some .int))
def M_X5_set : xM := (yX5_set, cX5_set, 4, none)
def M_X5_its : xM := (yX5_its, cX5_its, 2, (some .int))
def M_X5_follow : xM := (yX5_follow, cX5_follow, 2, none)
def M_X5_isReading : xM := (yX5_isReading, cX5_isReading, 2, (some .boolean))
def M_X5_reading : xM := (yX5_reading, cX5_reading, 3, (some .int))
def M_X5_worth : xM := (yX5_worth, cX5_worth, 2, (some .int))
def M_X5_later : xM := (yX5_later, cX5_later, 3, (some .int))
def M_X5_sinceBehind : xM := (yX5_sinceBehind, cX5_sinceBehind, 3, (some .int))
def M_X5_crying : xM := (yX5_crying, cX5_crying, 7, (some .int))
def M_X5_cryingNow : xM := (yX5_cryingNow, cX5_cryingNow, 2, (some .int))
def M_X5_sum : xM := (yX5_sum, cX5_sum, 5, (some .int))
def M_X5_members : xM := (yX5_members, cX5_members, 4, (some .int))
def M_X5_isLeague : xM := (yX5_isLeague, cX5_isLeague, 3, (some .boolean))
def M_X6_init : xM := (yX6_init, cX6_init, 1, none)
def M_X6_nameOf : xM := (yX6_nameOf, cX6_nameOf, 1, (some .int))
def M_X6_become : xM := (yX6_become, cX6_become, 3, none)
def M_X6_tell : xM := (yX6_tell, cX6_tell, 7, none)
def M_X6_isWritten : xM := (yX6_isWritten, cX6_isWritten, 1, (some .boolean))
def M_X6_unwritten : xM := (yX6_unwritten, cX6_unwritten, 1, (some .int))
def M_X6_written : xM := (yX6_written, cX6_written, 4, (some .int))
def M_X6_endOfLine : xM := (yX6_endOfLine, cX6_endOfLine, 3, (some .int))
def M_X6_worked : xM := (yX6_worked, cX6_worked, 3, (some .int))
def M_X7_init : xM := (yX7_init, cX7_init, 2, none)
def M_X7_outcome : xM := (yX7_outcome, cX7_outcome, 1, (some .int))
def M_X7_firstMove : xM := (yX7_firstMove, cX7_firstMove, 1, (some .int))
def M_X7_play : xM := (yX7_play, cX7_play, 5, none)
def M_X7_choice : xM := (yX7_choice, cX7_choice, 6, (some .int))
def M_X7_end : xM := (yX7_end, cX7_end, 4, (some .int))
def M_X8_init : xM := (yX8_init, cX8_init, 3, none)
def M_X8_mayBe : xM := (yX8_mayBe, cX8_mayBe, 3, (some .boolean))
def M_X8_most : xM := (yX8_most, cX8_most, 1, (some .long))
def M_X8_bestAt : xM := (yX8_bestAt, cX8_bestAt, 2, (some .int))
def M_X8_seek : xM := (yX8_seek, cX8_seek, 7, none)
def M_X8_first : xM := (yX8_first, cX8_first, 3, none)
def M_X8_goOn : xM := (yX8_goOn, cX8_goOn, 5, (some .boolean))
def M_X8_swap : xM := (yX8_swap, cX8_swap, 4, none)
def M_X9_init : xM := (yX9_init, cX9_init, 1, none)
def M_X9_isEmpty : xM := (yX9_isEmpty, cX9_isEmpty, 1, (some .boolean))
def M_X9_isRow : xM := (yX9_isRow, cX9_isRow, 1, (some .boolean))
def M_X9_isLike : xM := (yX9_isLike, cX9_isLike, 2, (some .boolean))
def M_X9_refusalOfBytes : xM := (yX9_refusalOfBytes, cX9_refusalOfBytes, 1, (some .int))
def M_X9_heldBody : xM := (yX9_heldBody, cX9_heldBody, 1, (some .int))
def M_X9_clear : xM := (yX9_clear, cX9_clear, 1, none)
def M_X9_holdBody : xM := (yX9_holdBody, cX9_holdBody, 2, none)
def M_X9_holdRow : xM := (yX9_holdRow, cX9_holdRow, 3, none)
def M_X9_hasPlaces : xM := (yX9_hasPlaces, cX9_hasPlaces, 3, (some .boolean))
def M_X9_set : xM := (yX9_set, cX9_set, 4, none)
def M_X9_get : xM := (yX9_get, cX9_get, 2, (some .long))
def M_X9_byteAt : xM := (yX9_byteAt, cX9_byteAt, 2, (some .int))
def M_X9_copy : xM := (yX9_copy, cX9_copy, 5, none)
def M_X9_cut : xM := (yX9_cut, cX9_cut, 3, (some .long))
def M_X10_init : xM := (yX10_init, cX10_init, 1, none)
def M_X10_length : xM := (yX10_length, cX10_length, 1, (some .int))
def M_X10_codeSize : xM := (yX10_codeSize, cX10_codeSize, 1, (some .int))
def M_X10_codeAt : xM := (yX10_codeAt, cX10_codeAt, 2, (some .int))
def M_X10_take : xM := (yX10_take, cX10_take, 2, (some .int))
def M_X10_clear : xM := (yX10_clear, cX10_clear, 1, none)
def M_X10_fault : xM := (yX10_fault, cX10_fault, 2, (some .int))
def M_X10_next : xM := (yX10_next, cX10_next, 1, (some .int))
def M_X10_emit : xM := (yX10_emit, cX10_emit, 2, none)
def M_X10_isLine : xM := (yX10_isLine, cX10_isLine, 1, (some .boolean))
def M_X10_levelOf : xM := (yX10_levelOf, cX10_levelOf, 1, (some .int))
def M_X10_isExpression : xM := (yX10_isExpression, cX10_isExpression, 4, (some .boolean))
def M_X10_isOperand : xM := (yX10_isOperand, cX10_isOperand, 3, (some .boolean))
def M_X10_isEnclosed : xM := (yX10_isEnclosed, cX10_isEnclosed, 2, (some .boolean))
def M_X10_isSigned : xM := (yX10_isSigned, cX10_isSigned, 3, (some .boolean))
def M_X10_isDigit : xM := (yX10_isDigit, cX10_isDigit, 1, (some .boolean))
def M_X10_isNumber : xM := (yX10_isNumber, cX10_isNumber, 3, (some .boolean))
def M_X11_init : xM := (yX11_init, cX11_init, 2, none)
def M_X11_bill : xM := (yX11_bill, cX11_bill, 2, (some .int))
def M_X11_bills : xM := (yX11_bills, cX11_bills, 5, (some .int))
def M_X11_senator : xM := (yX11_senator, cX11_senator, 3, (some .int))
def M_X11_mend : xM := (yX11_mend, cX11_mend, 5, (some .int))
def M_X11_of : xM := (yX11_of, cX11_of, 3, (some .int))
def M_X11_feed : xM := (yX11_feed, cX11_feed, 2, (some .int))
def M_X11_law : xM := (yX11_law, cX11_law, 2, (some .int))
def M_X11_cross : xM := (yX11_cross, cX11_cross, 2, (some .int))
def M_X11_reader : xM := (yX11_reader, cX11_reader, 6, (some .int))
def M_X11_passes : xM := (yX11_passes, cX11_passes, 4, (some .long))
def M_X11_quiet : xM := (yX11_quiet, cX11_quiet, 6, (some .long))
def M_X11_mean : xM := (yX11_mean, cX11_mean, 5, (some .long))
def M_X11_order : xM := (yX11_order, cX11_order, 4, (some .int))
def M_X11_orderWorth : xM := (yX11_orderWorth, cX11_orderWorth, 4, (some .long))
def M_X11_pack : xM := (yX11_pack, cX11_pack, 5, (some .int))
def M_X11_causes : xM := (yX11_causes, cX11_causes, 4, (some .int))
def M_X11_cause : xM := (yX11_cause, cX11_cause, 4, (some .long))
def M_X11_apart : xM := (yX11_apart, cX11_apart, 7, (some .int))
def M_X11_power : xM := (yX11_power, cX11_power, 5, (some .long))
def M_X11_leagues : xM := (yX11_leagues, cX11_leagues, 5, (some .int))
def M_X11_byTurns : xM := (yX11_byTurns, cX11_byTurns, 4, (some .int))
def M_X11_drawn : xM := (yX11_drawn, cX11_drawn, 7, (some .int))
def M_X11_read : xM := (yX11_read, cX11_read, 2, (some .int))
def M_X11_fed : xM := (yX11_fed, cX11_fed, 1, (some .int))
def M_X11_born : xM := (yX11_born, cX11_born, 3, (some .int))
def M_X11_pass : xM := (yX11_pass, cX11_pass, 2, (some .int))
def M_X11_led : xM := (yX11_led, cX11_led, 2, (some .int))
def M_X11_image : xM := (yX11_image, cX11_image, 1, (some .int))
def M_X11_back : xM := (yX11_back, cX11_back, 1, (some .int))
def M_X11_undo : xM := (yX11_undo, cX11_undo, 1, (some .int))
def M_X11_redo : xM := (yX11_redo, cX11_redo, 1, (some .int))
def M_X11_body : xM := (yX11_body, cX11_body, 2, (some .int))
def M_X11_act : xM := (yX11_act, cX11_act, 4, (some .int))
def M_X11_trace : xM := (yX11_trace, cX11_trace, 2, (some .int))
def M_X11_keep : xM := (yX11_keep, cX11_keep, 3, (some .int))
def M_X11_row : xM := (yX11_row, cX11_row, 4, (some .int))
def M_X11_put : xM := (yX11_put, cX11_put, 6, (some .int))
def M_X11_element : xM := (yX11_element, cX11_element, 3, (some .long))
def M_X11_shift : xM := (yX11_shift, cX11_shift, 8, (some .int))
def M_X11_taken : xM := (yX11_taken, cX11_taken, 4, (some .int))
def M_X11_count : xM := (yX11_count, cX11_count, 2, (some .int))
def M_X11_isShelf : xM := (yX11_isShelf, cX11_isShelf, 2, (some .boolean))
def M_X11_isPart : xM := (yX11_isPart, cX11_isPart, 1, (some .boolean))
def M_X11_isCount : xM := (yX11_isCount, cX11_isCount, 1, (some .boolean))
def M_X11_takesAgenda : xM := (yX11_takesAgenda, cX11_takesAgenda, 2, (some .boolean))
def M_X11_refusalOfPlace : xM := (yX11_refusalOfPlace, cX11_refusalOfPlace, 3, (some .int))
def M_X11_billComes : xM := (yX11_billComes, cX11_billComes, 6, (some .boolean))
def M_X11_isBetterPack : xM := (yX11_isBetterPack, cX11_isBetterPack, 4, (some .boolean))
def M_X11_twelves : xM := (yX11_twelves, cX11_twelves, 4, (some .long))
def M_X11_partOf : xM := (yX11_partOf, cX11_partOf, 7, (some .long))
def M_X11_commonOf : xM := (yX11_commonOf, cX11_commonOf, 11, (some .long))
def M_X12_init : xM := (yX12_init, cX12_init, 1, none)
def M_X12_in : xM := (yX12_in, cX12_in, 3, (some .boolean))
def M_X12_has : xM := (yX12_has, cX12_has, 2, (some .boolean))
def M_X12_bitsOf : xM := (yX12_bitsOf, cX12_bitsOf, 3, (some .int))
def M_X12_isBill : xM := (yX12_isBill, cX12_isBill, 2, (some .boolean))
def M_X12_isSenator : xM := (yX12_isSenator, cX12_isSenator, 2, (some .boolean))
def M_X12_areTwo : xM := (yX12_areTwo, cX12_areTwo, 2, (some .boolean))
def M_X12_addBill : xM := (yX12_addBill, cX12_addBill, 4, (some .int))
def M_X12_bill : xM := (yX12_bill, cX12_bill, 2, (some .int))
def M_X12_bills : xM := (yX12_bills, cX12_bills, 8, (some .int))
def M_X12_senator : xM := (yX12_senator, cX12_senator, 3, (some .int))
def M_X12_valueAt : xM := (yX12_valueAt, cX12_valueAt, 3, (some .int))
def M_X12_lays : xM := (yX12_lays, cX12_lays, 4, none)
def M_X12_changes : xM := (yX12_changes, cX12_changes, 6, (some .int))
def M_X12_undo : xM := (yX12_undo, cX12_undo, 1, (some .int))
def M_X12_redo : xM := (yX12_redo, cX12_redo, 1, (some .int))
def M_X12_isPlace : xM := (yX12_isPlace, cX12_isPlace, 3, (some .boolean))
def M_X12_mayHave : xM := (yX12_mayHave, cX12_mayHave, 2, (some .boolean))
def M_X12_mend : xM := (yX12_mend, cX12_mend, 4, (some .int))
def M_X12_of : xM := (yX12_of, cX12_of, 3, (some .int))
def M_X12_feed : xM := (yX12_feed, cX12_feed, 2, (some .int))
def M_X12_look : xM := (yX12_look, cX12_look, 1, (some .int))
def M_X12_wrong : xM := (yX12_wrong, cX12_wrong, 1, none)
def M_X12_addStep : xM := (yX12_addStep, cX12_addStep, 3, none)
def M_X12_nameOf : xM := (yX12_nameOf, cX12_nameOf, 1, (some .int))
def M_X12_opens : xM := (yX12_opens, cX12_opens, 1, (some .boolean))
def M_X12_figure : xM := (yX12_figure, cX12_figure, 3, none)
def M_X12_operand : xM := (yX12_operand, cX12_operand, 2, none)
def M_X12_product : xM := (yX12_product, cX12_product, 2, none)
def M_X12_sum : xM := (yX12_sum, cX12_sum, 2, none)
def M_X12_compared : xM := (yX12_compared, cX12_compared, 2, none)
def M_X12_both : xM := (yX12_both, cX12_both, 1, none)
def M_X12_either : xM := (yX12_either, cX12_either, 1, none)
def M_X12_line : xM := (yX12_line, cX12_line, 2, none)
def M_X12_readText : xM := (yX12_readText, cX12_readText, 3, (some .int))
def M_X12_twoOf : xM := (yX12_twoOf, cX12_twoOf, 3, (some .int))
def M_X12_worked : xM := (yX12_worked, cX12_worked, 7, (some .int))
def M_X12_gives : xM := (yX12_gives, cX12_gives, 4, (some .int))
def M_X12_law : xM := (yX12_law, cX12_law, 2, (some .int))
def M_X12_criesBy : xM := (yX12_criesBy, cX12_criesBy, 7, (some .int))
def M_X12_sinceWith : xM := (yX12_sinceWith, cX12_sinceWith, 3, (some .int))
def M_X12_nextBy : xM := (yX12_nextBy, cX12_nextBy, 3, (some .int))
def M_X12_cross : xM := (yX12_cross, cX12_cross, 2, (some .int))
def M_X12_reader : xM := (yX12_reader, cX12_reader, 4, (some .int))
def M_X12_rowFault : xM := (yX12_rowFault, cX12_rowFault, 2, (some .int))
def M_X12_at : xM := (yX12_at, cX12_at, 3, (some .int))
def M_X12_layAgenda : xM := (yX12_layAgenda, cX12_layAgenda, 2, none)
def M_X12_layWeights : xM := (yX12_layWeights, cX12_layWeights, 2, none)
def M_X12_goReading : xM := (yX12_goReading, cX12_goReading, 7, none)
def M_X12_lowest : xM := (yX12_lowest, cX12_lowest, 11, (some .long))
def M_X12_mayAsk : xM := (yX12_mayAsk, cX12_mayAsk, 3, (some .boolean))
def M_X12_passes : xM := (yX12_passes, cX12_passes, 5, (some .long))
def M_X12_firstOf : xM := (yX12_firstOf, cX12_firstOf, 2, (some .int))
def M_X12_allWeight : xM := (yX12_allWeight, cX12_allWeight, 4, (some .long))
def M_X12_quiet : xM := (yX12_quiet, cX12_quiet, 6, (some .long))
def M_X12_goMean : xM := (yX12_goMean, cX12_goMean, 3, none)
def M_X12_mean : xM := (yX12_mean, cX12_mean, 4, (some .long))
def M_X12_goOrder : xM := (yX12_goOrder, cX12_goOrder, 5, none)
def M_X12_mayOrder : xM := (yX12_mayOrder, cX12_mayOrder, 3, (some .boolean))
def M_X12_findOrder : xM := (yX12_findOrder, cX12_findOrder, 3, none)
def M_X12_order : xM := (yX12_order, cX12_order, 4, (some .int))
def M_X12_orderWorth : xM := (yX12_orderWorth, cX12_orderWorth, 7, (some .long))
def M_X12_lengthsOf : xM := (yX12_lengthsOf, cX12_lengthsOf, 4, (some .int))
def M_X12_worthsOf : xM := (yX12_worthsOf, cX12_worthsOf, 4, (some .int))
def M_X12_pack : xM := (yX12_pack, cX12_pack, 6, (some .int))
def M_X12_isThree : xM := (yX12_isThree, cX12_isThree, 3, (some .boolean))
def M_X12_chanceBy : xM := (yX12_chanceBy, cX12_chanceBy, 11, (some .long))
def M_X12_layChances : xM := (yX12_layChances, cX12_layChances, 4, none)
def M_X12_likeliest : xM := (yX12_likeliest, cX12_likeliest, 3, (some .int))
def M_X12_causes : xM := (yX12_causes, cX12_causes, 5, (some .int))
def M_X12_cause : xM := (yX12_cause, cX12_cause, 8, (some .long))
def M_X12_differBy : xM := (yX12_differBy, cX12_differBy, 6, (some .int))
def M_X12_apart : xM := (yX12_apart, cX12_apart, 7, (some .int))
def M_X12_power : xM := (yX12_power, cX12_power, 5, (some .long))
def M_X12_senatorsOf : xM := (yX12_senatorsOf, cX12_senatorsOf, 4, (some .int))
def M_X12_leagues : xM := (yX12_leagues, cX12_leagues, 6, (some .int))
def M_X12_windBy : xM := (yX12_windBy, cX12_windBy, 3, (some .int))
def M_X12_bestOf : xM := (yX12_bestOf, cX12_bestOf, 8, (some .int))
def M_X12_byTurns : xM := (yX12_byTurns, cX12_byTurns, 5, (some .int))
def M_X12_drawn : xM := (yX12_drawn, cX12_drawn, 13, (some .int))
def M_X12_read : xM := (yX12_read, cX12_read, 3, (some .int))
def M_X12_fed : xM := (yX12_fed, cX12_fed, 2, (some .int))
def M_X12_born : xM := (yX12_born, cX12_born, 3, (some .int))
def M_X12_pass : xM := (yX12_pass, cX12_pass, 2, (some .int))
def M_X12_led : xM := (yX12_led, cX12_led, 2, (some .int))
def M_X12_image : xM := (yX12_image, cX12_image, 2, (some .int))
def M_X12_back : xM := (yX12_back, cX12_back, 2, (some .int))
def M_X12_isBody : xM := (yX12_isBody, cX12_isBody, 2, (some .boolean))
def M_X12_ran : xM := (yX12_ran, cX12_ran, 2, none)
def M_X12_trace : xM := (yX12_trace, cX12_trace, 2, (some .int))
def M_X12_body : xM := (yX12_body, cX12_body, 2, (some .int))
def M_X12_isUnder : xM := (yX12_isUnder, cX12_isUnder, 2, (some .boolean))
def M_X12_plainReads : xM := (yX12_plainReads, cX12_plainReads, 3, (some .int))
def M_X12_twinReads : xM := (yX12_twinReads, cX12_twinReads, 3, (some .int))
def M_X12_reading : xM := (yX12_reading, cX12_reading, 3, (some .int))
def M_X12_plainCries : xM := (yX12_plainCries, cX12_plainCries, 3, (some .int))
def M_X12_cryCries : xM := (yX12_cryCries, cX12_cryCries, 3, (some .int))
def M_X12_crying : xM := (yX12_crying, cX12_crying, 4, (some .int))
def M_X12_plainHushes : xM := (yX12_plainHushes, cX12_plainHushes, 3, (some .int))
def M_X12_nurseHushes : xM := (yX12_nurseHushes, cX12_nurseHushes, 3, (some .int))
def M_X12_hushing : xM := (yX12_hushing, cX12_hushing, 4, (some .int))
def M_X12_plainTells : xM := (yX12_plainTells, cX12_plainTells, 4, (some .int))
def M_X12_telling : xM := (yX12_telling, cX12_telling, 3, (some .int))
def M_X12_act : xM := (yX12_act, cX12_act, 4, (some .int))
def M_X12_count : xM := (yX12_count, cX12_count, 2, (some .int))
def M_X12_isShelf : xM := (yX12_isShelf, cX12_isShelf, 1, (some .boolean))
def M_X12_keep : xM := (yX12_keep, cX12_keep, 3, (some .int))
def M_X12_row : xM := (yX12_row, cX12_row, 5, (some .int))
def M_X12_whyNoPlace : xM := (yX12_whyNoPlace, cX12_whyNoPlace, 3, (some .int))
def M_X12_put : xM := (yX12_put, cX12_put, 7, (some .int))
def M_X12_element : xM := (yX12_element, cX12_element, 3, (some .long))
def M_X12_shift : xM := (yX12_shift, cX12_shift, 7, (some .int))
def M_X12_taken : xM := (yX12_taken, cX12_taken, 3, (some .int))
def M_J6_bitCount_0f7a4 : xM := (yJ6_bitCount_0f7a4, cJ6_bitCount_0f7a4, 1, (some .int))
def M_J9_abs_0f7a4 : xM := (yJ9_abs_0f7a4, cJ9_abs_0f7a4, 1, (some .int))
def M_J9_max_7cf53 : xM := (yJ9_max_7cf53, cJ9_max_7cf53, 2, (some .int))
def M_J9_max_f86c9 : xM := (yJ9_max_f86c9, cJ9_max_f86c9, 4, (some .long))
def M_J9_min_7cf53 : xM := (yJ9_min_7cf53, cJ9_min_7cf53, 2, (some .int))
def M_J7_fill_d0a16 : xM := (yJ7_fill_d0a16, cJ7_fill_d0a16, 5, none)
def M_L_law : xM := (yL_law, cL_law, 4, (some .boolean))
set_option maxRecDepth 100000 in
theorem w_0 : Cond.code M_X0_init.1 M_X0_init.2.1 M_X0_init.2.2.1 M_X0_init.2.2.2 ∈ xtb := xt_1 121 rfl rfl
theorem w_1 : Cond.initialized "CradleVeto$Agenda" ∈ xtb := xt_1 6 (by decide +kernel) rfl
set_option maxRecDepth 100000 in
theorem w_2 : Cond.code M_X0_size.1 M_X0_size.2.1 M_X0_size.2.2.1 M_X0_size.2.2.2 ∈ xtb := xt_3 73 rfl rfl
set_option maxRecDepth 100000 in
theorem w_3 : Cond.code M_X0_take.1 M_X0_take.2.1 M_X0_take.2.2.1 M_X0_take.2.2.2 ∈ xtb := xt_3 64 rfl rfl
set_option maxRecDepth 100000 in
theorem w_4 : Cond.code M_X0_tell.1 M_X0_tell.2.1 M_X0_tell.2.2.1 M_X0_tell.2.2.2 ∈ xtb := xt_3 165 rfl rfl
set_option maxRecDepth 100000 in
theorem w_5 : Cond.code M_X0_begin.1 M_X0_begin.2.1 M_X0_begin.2.2.1 M_X0_begin.2.2.2 ∈ xtb := xt_3 82 rfl rfl
set_option maxRecDepth 100000 in
theorem w_6 : Cond.code M_X0_step.1 M_X0_step.2.1 M_X0_step.2.2.1 M_X0_step.2.2.2 ∈ xtb := xt_3 90 rfl rfl
set_option maxRecDepth 100000 in
theorem w_7 : Cond.code M_X0_passing.1 M_X0_passing.2.1 M_X0_passing.2.2.1 M_X0_passing.2.2.2 ∈ xtb := xt_3 78 rfl rfl
set_option maxRecDepth 100000 in
theorem w_8 : Cond.code M_X0_quietFrom.1 M_X0_quietFrom.2.1 M_X0_quietFrom.2.2.1 M_X0_quietFrom.2.2.2 ∈ xtb := xt_3 120 rfl rfl
set_option maxRecDepth 100000 in
theorem w_9 : Cond.code M_X0_worthOf.1 M_X0_worthOf.2.1 M_X0_worthOf.2.2.1 M_X0_worthOf.2.2.2 ∈ xtb := xt_3 128 rfl rfl
set_option maxRecDepth 100000 in
theorem w_10 : Cond.code M_X0_drawnYears.1 M_X0_drawnYears.2.1 M_X0_drawnYears.2.2.1 M_X0_drawnYears.2.2.2 ∈ xtb := xt_4 64 rfl rfl
set_option maxRecDepth 100000 in
theorem w_11 : Cond.code M_X0_gain.1 M_X0_gain.2.1 M_X0_gain.2.2.1 M_X0_gain.2.2.2 ∈ xtb := xt_4 75 rfl rfl
set_option maxRecDepth 100000 in
theorem w_12 : Cond.code M_X1_init.1 M_X1_init.2.1 M_X1_init.2.2.1 M_X1_init.2.2.2 ∈ xtb := xt_1 169 rfl rfl
theorem w_13 : Cond.initialized "CradleVeto$Causes" ∈ xtb := xt_1 8 (by decide +kernel) rfl
set_option maxRecDepth 100000 in
theorem w_14 : Cond.code M_X1_weigh.1 M_X1_weigh.2.1 M_X1_weigh.2.2.1 M_X1_weigh.2.2.2 ∈ xtb := xt_3 209 rfl rfl
set_option maxRecDepth 100000 in
theorem w_15 : Cond.code M_X1_weight.1 M_X1_weight.2.1 M_X1_weight.2.2.1 M_X1_weight.2.2.2 ∈ xtb := xt_3 214 rfl rfl
set_option maxRecDepth 100000 in
theorem w_16 : Cond.code M_X1_possible.1 M_X1_possible.2.1 M_X1_possible.2.2.1 M_X1_possible.2.2.2 ∈ xtb := xt_3 222 rfl rfl
set_option maxRecDepth 100000 in
theorem w_17 : Cond.code M_X1_likeliest.1 M_X1_likeliest.2.1 M_X1_likeliest.2.2.1 M_X1_likeliest.2.2.2 ∈ xtb := xt_3 226 rfl rfl
set_option maxRecDepth 100000 in
theorem w_18 : Cond.code M_X1_most.1 M_X1_most.2.1 M_X1_most.2.2.1 M_X1_most.2.2.2 ∈ xtb := xt_3 234 rfl rfl
set_option maxRecDepth 100000 in
theorem w_19 : Cond.code M_X1_together.1 M_X1_together.2.1 M_X1_together.2.2.1 M_X1_together.2.2.2 ∈ xtb := xt_3 239 rfl rfl
set_option maxRecDepth 100000 in
theorem w_20 : Cond.code M_X1_difference.1 M_X1_difference.2.1 M_X1_difference.2.2.1 M_X1_difference.2.2.2 ∈ xtb := xt_4 7 rfl rfl
set_option maxRecDepth 100000 in
theorem w_21 : Cond.code M_X2_init.1 M_X2_init.2.1 M_X2_init.2.2.1 M_X2_init.2.2.2 ∈ xtb := xt_1 93 rfl rfl
theorem w_22 : Cond.initialized "CradleVeto$Changes" ∈ xtb := xt_1 5 (by decide +kernel) rfl
set_option maxRecDepth 100000 in
theorem w_23 : Cond.code M_X2_behind.1 M_X2_behind.2.1 M_X2_behind.2.2.1 M_X2_behind.2.2.2 ∈ xtb := xt_4 152 rfl rfl
set_option maxRecDepth 100000 in
theorem w_24 : Cond.code M_X2_ahead.1 M_X2_ahead.2.1 M_X2_ahead.2.2.1 M_X2_ahead.2.2.2 ∈ xtb := xt_4 164 rfl rfl
set_option maxRecDepth 100000 in
theorem w_25 : Cond.code M_X2_make.1 M_X2_make.2.1 M_X2_make.2.2.1 M_X2_make.2.2.2 ∈ xtb := xt_2 133 rfl rfl
set_option maxRecDepth 100000 in
theorem w_26 : Cond.code M_X2_forgetFirst.1 M_X2_forgetFirst.2.1 M_X2_forgetFirst.2.2.1 M_X2_forgetFirst.2.2.2 ∈ xtb := xt_2 137 rfl rfl
set_option maxRecDepth 100000 in
theorem w_27 : Cond.code M_X2_goBack.1 M_X2_goBack.2.1 M_X2_goBack.2.2.1 M_X2_goBack.2.2.2 ∈ xtb := xt_4 148 rfl rfl
set_option maxRecDepth 100000 in
theorem w_28 : Cond.code M_X2_goOn.1 M_X2_goOn.2.1 M_X2_goOn.2.2.1 M_X2_goOn.2.2.2 ∈ xtb := xt_4 160 rfl rfl
set_option maxRecDepth 100000 in
theorem w_29 : Cond.code M_X3_init.1 M_X3_init.2.1 M_X3_init.2.2.1 M_X3_init.2.2.2 ∈ xtb := xt_1 226 rfl rfl
theorem w_30 : Cond.initialized "CradleVeto$Clauses" ∈ xtb := xt_1 11 (by decide +kernel) rfl
set_option maxRecDepth 100000 in
theorem w_31 : Cond.code M_X3_isKind.1 M_X3_isKind.2.1 M_X3_isKind.2.2.1 M_X3_isKind.2.2.2 ∈ xtb := xt_4 171 rfl rfl
set_option maxRecDepth 100000 in
theorem w_32 : Cond.code M_X3_isUnder.1 M_X3_isUnder.2.1 M_X3_isUnder.2.2.1 M_X3_isUnder.2.2.2 ∈ xtb := xt_5 50 rfl rfl
set_option maxRecDepth 100000 in
theorem w_33 : Cond.code M_X3_size.1 M_X3_size.2.1 M_X3_size.2.2.1 M_X3_size.2.2.2 ∈ xtb := xt_5 62 rfl rfl
set_option maxRecDepth 100000 in
theorem w_34 : Cond.code M_X3_ran.1 M_X3_ran.2.1 M_X3_ran.2.2.1 M_X3_ran.2.2.2 ∈ xtb := xt_5 66 rfl rfl
set_option maxRecDepth 100000 in
theorem w_35 : Cond.code M_X3_has.1 M_X3_has.2.1 M_X3_has.2.2.1 M_X3_has.2.2.2 ∈ xtb := xt_4 187 rfl rfl
set_option maxRecDepth 100000 in
theorem w_36 : Cond.code M_X3_kindOf.1 M_X3_kindOf.2.1 M_X3_kindOf.2.2.1 M_X3_kindOf.2.2.2 ∈ xtb := xt_5 47 rfl rfl
set_option maxRecDepth 100000 in
theorem w_37 : Cond.code M_X3_add.1 M_X3_add.2.1 M_X3_add.2.2.1 M_X3_add.2.2.2 ∈ xtb := xt_4 175 rfl rfl
set_option maxRecDepth 100000 in
theorem w_38 : Cond.code M_X3_traceAt.1 M_X3_traceAt.2.1 M_X3_traceAt.2.2.1 M_X3_traceAt.2.2.2 ∈ xtb := xt_4 211 rfl rfl
set_option maxRecDepth 100000 in
theorem w_39 : Cond.code M_X3_perform.1 M_X3_perform.2.1 M_X3_perform.2.2.1 M_X3_perform.2.2.2 ∈ xtb := xt_4 183 rfl rfl
set_option maxRecDepth 100000 in
theorem w_40 : Cond.code M_X3_holder.1 M_X3_holder.2.1 M_X3_holder.2.2.1 M_X3_holder.2.2.2 ∈ xtb := xt_4 194 rfl rfl
set_option maxRecDepth 100000 in
theorem w_41 : Cond.code M_X3_note.1 M_X3_note.2.1 M_X3_note.2.2.1 M_X3_note.2.2.2 ∈ xtb := xt_4 203 rfl rfl
set_option maxRecDepth 100000 in
theorem w_42 : Cond.code M_X3_run.1 M_X3_run.2.1 M_X3_run.2.2.1 M_X3_run.2.2.2 ∈ xtb := xt_4 191 rfl rfl
set_option maxRecDepth 100000 in
theorem w_43 : Cond.code M_X4_init.1 M_X4_init.2.1 M_X4_init.2.2.1 M_X4_init.2.2.2 ∈ xtb := xt_1 204 rfl rfl
theorem w_44 : Cond.initialized "CradleVeto$Deeds" ∈ xtb := xt_1 10 (by decide +kernel) rfl
set_option maxRecDepth 100000 in
theorem w_45 : Cond.code M_X4_drawBehind.1 M_X4_drawBehind.2.1 M_X4_drawBehind.2.2.1 M_X4_drawBehind.2.2.2 ∈ xtb := xt_4 67 rfl rfl
set_option maxRecDepth 100000 in
theorem w_46 : Cond.code M_X4_cries.1 M_X4_cries.2.1 M_X4_cries.2.2.1 M_X4_cries.2.2.2 ∈ xtb := xt_4 71 rfl rfl
set_option maxRecDepth 100000 in
theorem w_47 : Cond.code M_X4_done.1 M_X4_done.2.1 M_X4_done.2.2.1 M_X4_done.2.2.2 ∈ xtb := xt_4 123 rfl rfl
set_option maxRecDepth 100000 in
theorem w_48 : Cond.code M_X4_hear.1 M_X4_hear.2.1 M_X4_hear.2.2.1 M_X4_hear.2.2.2 ∈ xtb := xt_4 83 rfl rfl
set_option maxRecDepth 100000 in
theorem w_49 : Cond.code M_X4_nourish.1 M_X4_nourish.2.1 M_X4_nourish.2.2.1 M_X4_nourish.2.2.2 ∈ xtb := xt_4 98 rfl rfl
set_option maxRecDepth 100000 in
theorem w_50 : Cond.code M_X4_bringIn.1 M_X4_bringIn.2.1 M_X4_bringIn.2.2.1 M_X4_bringIn.2.2.2 ∈ xtb := xt_4 106 rfl rfl
set_option maxRecDepth 100000 in
theorem w_51 : Cond.code M_X4_letPass.1 M_X4_letPass.2.1 M_X4_letPass.2.2.1 M_X4_letPass.2.2.2 ∈ xtb := xt_4 114 rfl rfl
set_option maxRecDepth 100000 in
theorem w_52 : Cond.code M_X4_picture.1 M_X4_picture.2.1 M_X4_picture.2.2.1 M_X4_picture.2.2.2 ∈ xtb := xt_4 131 rfl rfl
set_option maxRecDepth 100000 in
theorem w_53 : Cond.code M_X4_layBack.1 M_X4_layBack.2.1 M_X4_layBack.2.2.1 M_X4_layBack.2.2.2 ∈ xtb := xt_4 140 rfl rfl
set_option maxRecDepth 100000 in
theorem w_54 : Cond.code M_X5_init.1 M_X5_init.2.1 M_X5_init.2.2.1 M_X5_init.2.2.2 ∈ xtb := xt_1 30 rfl rfl
theorem w_55 : Cond.initialized "CradleVeto$House" ∈ xtb := xt_1 2 (by decide +kernel) rfl
set_option maxRecDepth 100000 in
theorem w_56 : Cond.code M_X5_billCount.1 M_X5_billCount.2.1 M_X5_billCount.2.2.1 M_X5_billCount.2.2.2 ∈ xtb := xt_3 145 rfl rfl
set_option maxRecDepth 100000 in
theorem w_57 : Cond.code M_X5_senatorCount.1 M_X5_senatorCount.2.1 M_X5_senatorCount.2.2.1 M_X5_senatorCount.2.2.2 ∈ xtb := xt_3 49 rfl rfl
set_option maxRecDepth 100000 in
theorem w_58 : Cond.code M_X5_addBill.1 M_X5_addBill.2.1 M_X5_addBill.2.2.1 M_X5_addBill.2.2.2 ∈ xtb := xt_2 68 rfl rfl
set_option maxRecDepth 100000 in
theorem w_59 : Cond.code M_X5_addSenator.1 M_X5_addSenator.2.1 M_X5_addSenator.2.2.1 M_X5_addSenator.2.2.2 ∈ xtb := xt_2 115 rfl rfl
set_option maxRecDepth 100000 in
theorem w_60 : Cond.code M_X5_has.1 M_X5_has.2.1 M_X5_has.2.2.1 M_X5_has.2.2.2 ∈ xtb := xt_2 123 rfl rfl
set_option maxRecDepth 100000 in
theorem w_61 : Cond.code M_X5_may.1 M_X5_may.2.1 M_X5_may.2.2.1 M_X5_may.2.2.2 ∈ xtb := xt_2 103 rfl rfl
set_option maxRecDepth 100000 in
theorem w_62 : Cond.code M_X5_get.1 M_X5_get.2.1 M_X5_get.2.2.1 M_X5_get.2.2.2 ∈ xtb := xt_2 128 rfl rfl
set_option maxRecDepth 100000 in
theorem w_63 : Cond.code M_X5_set.1 M_X5_set.2.1 M_X5_set.2.2.1 M_X5_set.2.2.2 ∈ xtb := xt_2 145 rfl rfl
set_option maxRecDepth 100000 in
theorem w_64 : Cond.code M_X5_its.1 M_X5_its.2.1 M_X5_its.2.2.1 M_X5_its.2.2.2 ∈ xtb := xt_3 5 rfl rfl
set_option maxRecDepth 100000 in
theorem w_65 : Cond.code M_X5_follow.1 M_X5_follow.2.1 M_X5_follow.2.2.1 M_X5_follow.2.2.2 ∈ xtb := xt_2 210 rfl rfl
set_option maxRecDepth 100000 in
theorem w_66 : Cond.code M_X5_isReading.1 M_X5_isReading.2.1 M_X5_isReading.2.2.1 M_X5_isReading.2.2.2 ∈ xtb := xt_2 237 rfl rfl
set_option maxRecDepth 100000 in
theorem w_67 : Cond.code M_X5_reading.1 M_X5_reading.2.1 M_X5_reading.2.2.1 M_X5_reading.2.2.2 ∈ xtb := xt_3 69 rfl rfl
set_option maxRecDepth 100000 in
theorem w_68 : Cond.code M_X5_worth.1 M_X5_worth.2.1 M_X5_worth.2.2.1 M_X5_worth.2.2.2 ∈ xtb := xt_3 133 rfl rfl
set_option maxRecDepth 100000 in
theorem w_69 : Cond.code M_X5_later.1 M_X5_later.2.1 M_X5_later.2.2.1 M_X5_later.2.2.2 ∈ xtb := xt_3 14 rfl rfl
set_option maxRecDepth 100000 in
theorem w_70 : Cond.code M_X5_sinceBehind.1 M_X5_sinceBehind.2.1 M_X5_sinceBehind.2.2.1 M_X5_sinceBehind.2.2.2 ∈ xtb := xt_3 95 rfl rfl
set_option maxRecDepth 100000 in
theorem w_71 : Cond.code M_X5_crying.1 M_X5_crying.2.1 M_X5_crying.2.2.1 M_X5_crying.2.2.2 ∈ xtb := xt_3 10 rfl rfl
set_option maxRecDepth 100000 in
theorem w_72 : Cond.code M_X5_cryingNow.1 M_X5_cryingNow.2.1 M_X5_cryingNow.2.2.1 M_X5_cryingNow.2.2.2 ∈ xtb := xt_3 1 rfl rfl
set_option maxRecDepth 100000 in
theorem w_73 : Cond.code M_X5_sum.1 M_X5_sum.2.1 M_X5_sum.2.2.1 M_X5_sum.2.2.2 ∈ xtb := xt_3 197 rfl rfl
set_option maxRecDepth 100000 in
theorem w_74 : Cond.code M_X5_members.1 M_X5_members.2.1 M_X5_members.2.2.1 M_X5_members.2.2.2 ∈ xtb := xt_4 26 rfl rfl
set_option maxRecDepth 100000 in
theorem w_75 : Cond.code M_X5_isLeague.1 M_X5_isLeague.2.1 M_X5_isLeague.2.2.1 M_X5_isLeague.2.2.2 ∈ xtb := xt_4 22 rfl rfl
set_option maxRecDepth 100000 in
theorem w_76 : Cond.code M_X6_init.1 M_X6_init.2.1 M_X6_init.2.2.1 M_X6_init.2.2.2 ∈ xtb := xt_1 36 rfl rfl
theorem w_77 : Cond.initialized "CradleVeto$Law" ∈ xtb := xt_1 3 (by decide +kernel) rfl
set_option maxRecDepth 100000 in
theorem w_78 : Cond.code M_X6_nameOf.1 M_X6_nameOf.2.1 M_X6_nameOf.2.2.1 M_X6_nameOf.2.2.2 ∈ xtb := xt_2 195 rfl rfl
set_option maxRecDepth 100000 in
theorem w_79 : Cond.code M_X6_become.1 M_X6_become.2.1 M_X6_become.2.2.1 M_X6_become.2.2.2 ∈ xtb := xt_2 214 rfl rfl
set_option maxRecDepth 100000 in
theorem w_80 : Cond.code M_X6_tell.1 M_X6_tell.2.1 M_X6_tell.2.2.1 M_X6_tell.2.2.2 ∈ xtb := xt_3 19 rfl rfl
set_option maxRecDepth 100000 in
theorem w_81 : Cond.code M_X6_isWritten.1 M_X6_isWritten.2.1 M_X6_isWritten.2.2.1 M_X6_isWritten.2.2.2 ∈ xtb := xt_3 23 rfl rfl
set_option maxRecDepth 100000 in
theorem w_82 : Cond.code M_X6_unwritten.1 M_X6_unwritten.2.1 M_X6_unwritten.2.2.1 M_X6_unwritten.2.2.2 ∈ xtb := xt_3 38 rfl rfl
set_option maxRecDepth 100000 in
theorem w_83 : Cond.code M_X6_written.1 M_X6_written.2.1 M_X6_written.2.2.1 M_X6_written.2.2.2 ∈ xtb := xt_3 27 rfl rfl
set_option maxRecDepth 100000 in
theorem w_84 : Cond.code M_X6_endOfLine.1 M_X6_endOfLine.2.1 M_X6_endOfLine.2.2.1 M_X6_endOfLine.2.2.2 ∈ xtb := xt_3 31 rfl rfl
set_option maxRecDepth 100000 in
theorem w_85 : Cond.code M_X6_worked.1 M_X6_worked.2.1 M_X6_worked.2.2.1 M_X6_worked.2.2.2 ∈ xtb := xt_3 34 rfl rfl
set_option maxRecDepth 100000 in
theorem w_86 : Cond.code M_X7_init.1 M_X7_init.2.1 M_X7_init.2.2.1 M_X7_init.2.2.2 ∈ xtb := xt_1 182 rfl rfl
theorem w_87 : Cond.initialized "CradleVeto$Nurses" ∈ xtb := xt_1 9 (by decide +kernel) rfl
set_option maxRecDepth 100000 in
theorem w_88 : Cond.code M_X7_outcome.1 M_X7_outcome.2.1 M_X7_outcome.2.2.1 M_X7_outcome.2.2.2 ∈ xtb := xt_4 52 rfl rfl
set_option maxRecDepth 100000 in
theorem w_89 : Cond.code M_X7_firstMove.1 M_X7_firstMove.2.1 M_X7_firstMove.2.2.1 M_X7_firstMove.2.2.2 ∈ xtb := xt_4 56 rfl rfl
set_option maxRecDepth 100000 in
theorem w_90 : Cond.code M_X7_play.1 M_X7_play.2.1 M_X7_play.2.2.1 M_X7_play.2.2.2 ∈ xtb := xt_4 35 rfl rfl
set_option maxRecDepth 100000 in
theorem w_91 : Cond.code M_X7_choice.1 M_X7_choice.2.1 M_X7_choice.2.2.1 M_X7_choice.2.2.2 ∈ xtb := xt_4 41 rfl rfl
set_option maxRecDepth 100000 in
theorem w_92 : Cond.code M_X7_end.1 M_X7_end.2.1 M_X7_end.2.2.1 M_X7_end.2.2.2 ∈ xtb := xt_4 45 rfl rfl
set_option maxRecDepth 100000 in
theorem w_93 : Cond.code M_X8_init.1 M_X8_init.2.1 M_X8_init.2.2.1 M_X8_init.2.2.2 ∈ xtb := xt_1 144 rfl rfl
theorem w_94 : Cond.initialized "CradleVeto$Orders" ∈ xtb := xt_1 7 (by decide +kernel) rfl
set_option maxRecDepth 100000 in
theorem w_95 : Cond.code M_X8_mayBe.1 M_X8_mayBe.2.1 M_X8_mayBe.2.2.1 M_X8_mayBe.2.2.2 ∈ xtb := xt_3 141 rfl rfl
set_option maxRecDepth 100000 in
theorem w_96 : Cond.code M_X8_most.1 M_X8_most.2.1 M_X8_most.2.2.1 M_X8_most.2.2.2 ∈ xtb := xt_3 187 rfl rfl
set_option maxRecDepth 100000 in
theorem w_97 : Cond.code M_X8_bestAt.1 M_X8_bestAt.2.1 M_X8_bestAt.2.2.1 M_X8_bestAt.2.2.2 ∈ xtb := xt_3 179 rfl rfl
set_option maxRecDepth 100000 in
theorem w_98 : Cond.code M_X8_seek.1 M_X8_seek.2.1 M_X8_seek.2.2.1 M_X8_seek.2.2.2 ∈ xtb := xt_3 156 rfl rfl
set_option maxRecDepth 100000 in
theorem w_99 : Cond.code M_X8_first.1 M_X8_first.2.1 M_X8_first.2.2.1 M_X8_first.2.2.2 ∈ xtb := xt_3 160 rfl rfl
set_option maxRecDepth 100000 in
theorem w_100 : Cond.code M_X8_goOn.1 M_X8_goOn.2.1 M_X8_goOn.2.2.1 M_X8_goOn.2.2.2 ∈ xtb := xt_3 171 rfl rfl
set_option maxRecDepth 100000 in
theorem w_101 : Cond.code M_X8_swap.1 M_X8_swap.2.1 M_X8_swap.2.2.1 M_X8_swap.2.2.2 ∈ xtb := xt_3 175 rfl rfl
set_option maxRecDepth 100000 in
theorem w_102 : Cond.code M_X9_init.1 M_X9_init.2.1 M_X9_init.2.2.1 M_X9_init.2.2.2 ∈ xtb := xt_2 12 rfl rfl
theorem w_103 : Cond.initialized "CradleVeto$Shelf" ∈ xtb := xt_1 12 (by decide +kernel) rfl
set_option maxRecDepth 100000 in
theorem w_104 : Cond.code M_X9_isEmpty.1 M_X9_isEmpty.2.1 M_X9_isEmpty.2.2.1 M_X9_isEmpty.2.2.2 ∈ xtb := xt_2 80 rfl rfl
set_option maxRecDepth 100000 in
theorem w_105 : Cond.code M_X9_isRow.1 M_X9_isRow.2.1 M_X9_isRow.2.2.1 M_X9_isRow.2.2.2 ∈ xtb := xt_2 100 rfl rfl
set_option maxRecDepth 100000 in
theorem w_106 : Cond.code M_X9_isLike.1 M_X9_isLike.2.1 M_X9_isLike.2.2.1 M_X9_isLike.2.2.2 ∈ xtb := xt_5 30 rfl rfl
set_option maxRecDepth 100000 in
theorem w_107 : Cond.code M_X9_refusalOfBytes.1 M_X9_refusalOfBytes.2.1 M_X9_refusalOfBytes.2.2.1 M_X9_refusalOfBytes.2.2.2 ∈ xtb := xt_2 84 rfl rfl
set_option maxRecDepth 100000 in
theorem w_108 : Cond.code M_X9_heldBody.1 M_X9_heldBody.2.1 M_X9_heldBody.2.2.1 M_X9_heldBody.2.2.2 ∈ xtb := xt_5 43 rfl rfl
set_option maxRecDepth 100000 in
theorem w_109 : Cond.code M_X9_clear.1 M_X9_clear.2.1 M_X9_clear.2.2.1 M_X9_clear.2.2.2 ∈ xtb := xt_4 220 rfl rfl
set_option maxRecDepth 100000 in
theorem w_110 : Cond.code M_X9_holdBody.1 M_X9_holdBody.2.1 M_X9_holdBody.2.2.1 M_X9_holdBody.2.2.2 ∈ xtb := xt_4 224 rfl rfl
set_option maxRecDepth 100000 in
theorem w_111 : Cond.code M_X9_holdRow.1 M_X9_holdRow.2.1 M_X9_holdRow.2.2.1 M_X9_holdRow.2.2.2 ∈ xtb := xt_4 232 rfl rfl
set_option maxRecDepth 100000 in
theorem w_112 : Cond.code M_X9_hasPlaces.1 M_X9_hasPlaces.2.1 M_X9_hasPlaces.2.2.1 M_X9_hasPlaces.2.2.2 ∈ xtb := xt_2 96 rfl rfl
set_option maxRecDepth 100000 in
theorem w_113 : Cond.code M_X9_set.1 M_X9_set.2.1 M_X9_set.2.2.1 M_X9_set.2.2.2 ∈ xtb := xt_5 9 rfl rfl
set_option maxRecDepth 100000 in
theorem w_114 : Cond.code M_X9_get.1 M_X9_get.2.1 M_X9_get.2.2.1 M_X9_get.2.2.2 ∈ xtb := xt_5 21 rfl rfl
set_option maxRecDepth 100000 in
theorem w_115 : Cond.code M_X9_byteAt.1 M_X9_byteAt.2.1 M_X9_byteAt.2.2.1 M_X9_byteAt.2.2.2 ∈ xtb := xt_2 92 rfl rfl
set_option maxRecDepth 100000 in
theorem w_116 : Cond.code M_X9_copy.1 M_X9_copy.2.1 M_X9_copy.2.2.1 M_X9_copy.2.2.2 ∈ xtb := xt_5 34 rfl rfl
set_option maxRecDepth 100000 in
theorem w_117 : Cond.code M_X9_cut.1 M_X9_cut.2.1 M_X9_cut.2.2.1 M_X9_cut.2.2.2 ∈ xtb := xt_5 13 rfl rfl
set_option maxRecDepth 100000 in
theorem w_118 : Cond.code M_X10_init.1 M_X10_init.2.1 M_X10_init.2.2.1 M_X10_init.2.2.2 ∈ xtb := xt_1 71 rfl rfl
theorem w_119 : Cond.initialized "CradleVeto$Tape" ∈ xtb := xt_1 4 (by decide +kernel) rfl
set_option maxRecDepth 100000 in
theorem w_120 : Cond.code M_X10_length.1 M_X10_length.2.1 M_X10_length.2.2.1 M_X10_length.2.2.2 ∈ xtb := xt_5 58 rfl rfl
set_option maxRecDepth 100000 in
theorem w_121 : Cond.code M_X10_codeSize.1 M_X10_codeSize.2.1 M_X10_codeSize.2.2.1 M_X10_codeSize.2.2.2 ∈ xtb := xt_2 218 rfl rfl
set_option maxRecDepth 100000 in
theorem w_122 : Cond.code M_X10_codeAt.1 M_X10_codeAt.2.1 M_X10_codeAt.2.2.1 M_X10_codeAt.2.2.2 ∈ xtb := xt_2 225 rfl rfl
set_option maxRecDepth 100000 in
theorem w_123 : Cond.code M_X10_take.1 M_X10_take.2.1 M_X10_take.2.2.1 M_X10_take.2.2.2 ∈ xtb := xt_2 157 rfl rfl
set_option maxRecDepth 100000 in
theorem w_124 : Cond.code M_X10_clear.1 M_X10_clear.2.1 M_X10_clear.2.2.1 M_X10_clear.2.2.2 ∈ xtb := xt_2 229 rfl rfl
set_option maxRecDepth 100000 in
theorem w_125 : Cond.code M_X10_fault.1 M_X10_fault.2.1 M_X10_fault.2.2.1 M_X10_fault.2.2.2 ∈ xtb := xt_2 165 rfl rfl
set_option maxRecDepth 100000 in
theorem w_126 : Cond.code M_X10_next.1 M_X10_next.2.1 M_X10_next.2.2.1 M_X10_next.2.2.2 ∈ xtb := xt_2 181 rfl rfl
set_option maxRecDepth 100000 in
theorem w_127 : Cond.code M_X10_emit.1 M_X10_emit.2.1 M_X10_emit.2.2.1 M_X10_emit.2.2.2 ∈ xtb := xt_2 192 rfl rfl
set_option maxRecDepth 100000 in
theorem w_128 : Cond.code M_X10_isLine.1 M_X10_isLine.2.1 M_X10_isLine.2.2.1 M_X10_isLine.2.2.2 ∈ xtb := xt_2 169 rfl rfl
set_option maxRecDepth 100000 in
theorem w_129 : Cond.code M_X10_levelOf.1 M_X10_levelOf.2.1 M_X10_levelOf.2.2.1 M_X10_levelOf.2.2.2 ∈ xtb := xt_2 206 rfl rfl
set_option maxRecDepth 100000 in
theorem w_130 : Cond.code M_X10_isExpression.1 M_X10_isExpression.2.1 M_X10_isExpression.2.2.1 M_X10_isExpression.2.2.2 ∈ xtb := xt_2 173 rfl rfl
set_option maxRecDepth 100000 in
theorem w_131 : Cond.code M_X10_isOperand.1 M_X10_isOperand.2.1 M_X10_isOperand.2.2.1 M_X10_isOperand.2.2.2 ∈ xtb := xt_2 177 rfl rfl
set_option maxRecDepth 100000 in
theorem w_132 : Cond.code M_X10_isEnclosed.1 M_X10_isEnclosed.2.1 M_X10_isEnclosed.2.2.1 M_X10_isEnclosed.2.2.2 ∈ xtb := xt_2 199 rfl rfl
set_option maxRecDepth 100000 in
theorem w_133 : Cond.code M_X10_isSigned.1 M_X10_isSigned.2.1 M_X10_isSigned.2.2.1 M_X10_isSigned.2.2.2 ∈ xtb := xt_2 203 rfl rfl
set_option maxRecDepth 100000 in
theorem w_134 : Cond.code M_X10_isDigit.1 M_X10_isDigit.2.1 M_X10_isDigit.2.2.1 M_X10_isDigit.2.2.2 ∈ xtb := xt_2 184 rfl rfl
set_option maxRecDepth 100000 in
theorem w_135 : Cond.code M_X10_isNumber.1 M_X10_isNumber.2.1 M_X10_isNumber.2.2.1 M_X10_isNumber.2.2.2 ∈ xtb := xt_2 188 rfl rfl
set_option maxRecDepth 100000 in
theorem w_136 : Cond.code M_X11_init.1 M_X11_init.2.1 M_X11_init.2.2.1 M_X11_init.2.2.2 ∈ xtb := xt_1 22 rfl rfl
theorem w_137 : Cond.initialized "CradleVeto" ∈ xtb := xt_1 1 (by decide +kernel) rfl
set_option maxRecDepth 100000 in
theorem w_138 : Cond.code M_X11_bill.1 M_X11_bill.2.1 M_X11_bill.2.2.1 M_X11_bill.2.2.2 ∈ xtb := xt_2 64 rfl rfl
set_option maxRecDepth 100000 in
theorem w_139 : Cond.code M_X11_bills.1 M_X11_bills.2.1 M_X11_bills.2.2.1 M_X11_bills.2.2.2 ∈ xtb := xt_2 72 rfl rfl
set_option maxRecDepth 100000 in
theorem w_140 : Cond.code M_X11_senator.1 M_X11_senator.2.1 M_X11_senator.2.2.1 M_X11_senator.2.2.2 ∈ xtb := xt_2 111 rfl rfl
set_option maxRecDepth 100000 in
theorem w_141 : Cond.code M_X11_mend.1 M_X11_mend.2.1 M_X11_mend.2.2.1 M_X11_mend.2.2.2 ∈ xtb := xt_2 119 rfl rfl
set_option maxRecDepth 100000 in
theorem w_142 : Cond.code M_X11_of.1 M_X11_of.2.1 M_X11_of.2.2.1 M_X11_of.2.2.2 ∈ xtb := xt_2 149 rfl rfl
set_option maxRecDepth 100000 in
theorem w_143 : Cond.code M_X11_feed.1 M_X11_feed.2.1 M_X11_feed.2.2.1 M_X11_feed.2.2.2 ∈ xtb := xt_2 153 rfl rfl
set_option maxRecDepth 100000 in
theorem w_144 : Cond.code M_X11_law.1 M_X11_law.2.1 M_X11_law.2.2.1 M_X11_law.2.2.2 ∈ xtb := xt_2 161 rfl rfl
set_option maxRecDepth 100000 in
theorem w_145 : Cond.code M_X11_cross.1 M_X11_cross.2.1 M_X11_cross.2.2.1 M_X11_cross.2.2.2 ∈ xtb := xt_2 233 rfl rfl
set_option maxRecDepth 100000 in
theorem w_146 : Cond.code M_X11_reader.1 M_X11_reader.2.1 M_X11_reader.2.2.1 M_X11_reader.2.2.2 ∈ xtb := xt_3 45 rfl rfl
set_option maxRecDepth 100000 in
theorem w_147 : Cond.code M_X11_passes.1 M_X11_passes.2.1 M_X11_passes.2.2.1 M_X11_passes.2.2.2 ∈ xtb := xt_3 53 rfl rfl
set_option maxRecDepth 100000 in
theorem w_148 : Cond.code M_X11_quiet.1 M_X11_quiet.2.1 M_X11_quiet.2.2.1 M_X11_quiet.2.2.2 ∈ xtb := xt_3 112 rfl rfl
set_option maxRecDepth 100000 in
theorem w_149 : Cond.code M_X11_mean.1 M_X11_mean.2.1 M_X11_mean.2.2.1 M_X11_mean.2.2.2 ∈ xtb := xt_3 124 rfl rfl
set_option maxRecDepth 100000 in
theorem w_150 : Cond.code M_X11_order.1 M_X11_order.2.1 M_X11_order.2.2.1 M_X11_order.2.2.2 ∈ xtb := xt_3 137 rfl rfl
set_option maxRecDepth 100000 in
theorem w_151 : Cond.code M_X11_orderWorth.1 M_X11_orderWorth.2.1 M_X11_orderWorth.2.2.1 M_X11_orderWorth.2.2.2 ∈ xtb := xt_3 183 rfl rfl
set_option maxRecDepth 100000 in
theorem w_152 : Cond.code M_X11_pack.1 M_X11_pack.2.1 M_X11_pack.2.2.1 M_X11_pack.2.2.2 ∈ xtb := xt_3 192 rfl rfl
set_option maxRecDepth 100000 in
theorem w_153 : Cond.code M_X11_causes.1 M_X11_causes.2.1 M_X11_causes.2.2.1 M_X11_causes.2.2.2 ∈ xtb := xt_3 205 rfl rfl
set_option maxRecDepth 100000 in
theorem w_154 : Cond.code M_X11_cause.1 M_X11_cause.2.1 M_X11_cause.2.2.1 M_X11_cause.2.2.2 ∈ xtb := xt_3 230 rfl rfl
set_option maxRecDepth 100000 in
theorem w_155 : Cond.code M_X11_apart.1 M_X11_apart.2.1 M_X11_apart.2.2.1 M_X11_apart.2.2.2 ∈ xtb := xt_4 3 rfl rfl
set_option maxRecDepth 100000 in
theorem w_156 : Cond.code M_X11_power.1 M_X11_power.2.1 M_X11_power.2.2.1 M_X11_power.2.2.2 ∈ xtb := xt_4 14 rfl rfl
set_option maxRecDepth 100000 in
theorem w_157 : Cond.code M_X11_leagues.1 M_X11_leagues.2.1 M_X11_leagues.2.2.1 M_X11_leagues.2.2.2 ∈ xtb := xt_4 18 rfl rfl
set_option maxRecDepth 100000 in
theorem w_158 : Cond.code M_X11_byTurns.1 M_X11_byTurns.2.1 M_X11_byTurns.2.2.1 M_X11_byTurns.2.2.2 ∈ xtb := xt_4 31 rfl rfl
set_option maxRecDepth 100000 in
theorem w_159 : Cond.code M_X11_drawn.1 M_X11_drawn.2.1 M_X11_drawn.2.2.1 M_X11_drawn.2.2.2 ∈ xtb := xt_4 60 rfl rfl
set_option maxRecDepth 100000 in
theorem w_160 : Cond.code M_X11_read.1 M_X11_read.2.1 M_X11_read.2.2.1 M_X11_read.2.2.2 ∈ xtb := xt_4 79 rfl rfl
set_option maxRecDepth 100000 in
theorem w_161 : Cond.code M_X11_fed.1 M_X11_fed.2.1 M_X11_fed.2.2.1 M_X11_fed.2.2.2 ∈ xtb := xt_4 94 rfl rfl
set_option maxRecDepth 100000 in
theorem w_162 : Cond.code M_X11_born.1 M_X11_born.2.1 M_X11_born.2.2.1 M_X11_born.2.2.2 ∈ xtb := xt_4 102 rfl rfl
set_option maxRecDepth 100000 in
theorem w_163 : Cond.code M_X11_pass.1 M_X11_pass.2.1 M_X11_pass.2.2.1 M_X11_pass.2.2.2 ∈ xtb := xt_4 110 rfl rfl
set_option maxRecDepth 100000 in
theorem w_164 : Cond.code M_X11_led.1 M_X11_led.2.1 M_X11_led.2.2.1 M_X11_led.2.2.2 ∈ xtb := xt_4 119 rfl rfl
set_option maxRecDepth 100000 in
theorem w_165 : Cond.code M_X11_image.1 M_X11_image.2.1 M_X11_image.2.2.1 M_X11_image.2.2.2 ∈ xtb := xt_4 127 rfl rfl
set_option maxRecDepth 100000 in
theorem w_166 : Cond.code M_X11_back.1 M_X11_back.2.1 M_X11_back.2.2.1 M_X11_back.2.2.2 ∈ xtb := xt_4 136 rfl rfl
set_option maxRecDepth 100000 in
theorem w_167 : Cond.code M_X11_undo.1 M_X11_undo.2.1 M_X11_undo.2.2.1 M_X11_undo.2.2.2 ∈ xtb := xt_4 144 rfl rfl
set_option maxRecDepth 100000 in
theorem w_168 : Cond.code M_X11_redo.1 M_X11_redo.2.1 M_X11_redo.2.2.1 M_X11_redo.2.2.2 ∈ xtb := xt_4 156 rfl rfl
set_option maxRecDepth 100000 in
theorem w_169 : Cond.code M_X11_body.1 M_X11_body.2.1 M_X11_body.2.2.1 M_X11_body.2.2.2 ∈ xtb := xt_4 168 rfl rfl
set_option maxRecDepth 100000 in
theorem w_170 : Cond.code M_X11_act.1 M_X11_act.2.1 M_X11_act.2.2.1 M_X11_act.2.2.2 ∈ xtb := xt_4 179 rfl rfl
set_option maxRecDepth 100000 in
theorem w_171 : Cond.code M_X11_trace.1 M_X11_trace.2.1 M_X11_trace.2.2.1 M_X11_trace.2.2.2 ∈ xtb := xt_4 207 rfl rfl
set_option maxRecDepth 100000 in
theorem w_172 : Cond.code M_X11_keep.1 M_X11_keep.2.1 M_X11_keep.2.2.1 M_X11_keep.2.2.2 ∈ xtb := xt_4 215 rfl rfl
set_option maxRecDepth 100000 in
theorem w_173 : Cond.code M_X11_row.1 M_X11_row.2.1 M_X11_row.2.2.1 M_X11_row.2.2.2 ∈ xtb := xt_4 228 rfl rfl
set_option maxRecDepth 100000 in
theorem w_174 : Cond.code M_X11_put.1 M_X11_put.2.1 M_X11_put.2.2.1 M_X11_put.2.2.2 ∈ xtb := xt_4 239 rfl rfl
set_option maxRecDepth 100000 in
theorem w_175 : Cond.code M_X11_element.1 M_X11_element.2.1 M_X11_element.2.2.1 M_X11_element.2.2.2 ∈ xtb := xt_5 17 rfl rfl
set_option maxRecDepth 100000 in
theorem w_176 : Cond.code M_X11_shift.1 M_X11_shift.2.1 M_X11_shift.2.2.1 M_X11_shift.2.2.2 ∈ xtb := xt_5 26 rfl rfl
set_option maxRecDepth 100000 in
theorem w_177 : Cond.code M_X11_taken.1 M_X11_taken.2.1 M_X11_taken.2.2.1 M_X11_taken.2.2.2 ∈ xtb := xt_5 39 rfl rfl
set_option maxRecDepth 100000 in
theorem w_178 : Cond.code M_X11_count.1 M_X11_count.2.1 M_X11_count.2.2.1 M_X11_count.2.2.2 ∈ xtb := xt_5 54 rfl rfl
set_option maxRecDepth 100000 in
theorem w_179 : Cond.code M_X11_isShelf.1 M_X11_isShelf.2.1 M_X11_isShelf.2.2.1 M_X11_isShelf.2.2.2 ∈ xtb := xt_2 76 rfl rfl
set_option maxRecDepth 100000 in
theorem w_180 : Cond.code M_X11_isPart.1 M_X11_isPart.2.1 M_X11_isPart.2.2.1 M_X11_isPart.2.2.2 ∈ xtb := xt_3 56 rfl rfl
set_option maxRecDepth 100000 in
theorem w_181 : Cond.code M_X11_isCount.1 M_X11_isCount.2.1 M_X11_isCount.2.2.1 M_X11_isCount.2.2.2 ∈ xtb := xt_3 115 rfl rfl
set_option maxRecDepth 100000 in
theorem w_182 : Cond.code M_X11_takesAgenda.1 M_X11_takesAgenda.2.1 M_X11_takesAgenda.2.2.1 M_X11_takesAgenda.2.2.2 ∈ xtb := xt_3 60 rfl rfl
set_option maxRecDepth 100000 in
theorem w_183 : Cond.code M_X11_refusalOfPlace.1 M_X11_refusalOfPlace.2.1 M_X11_refusalOfPlace.2.2.1 M_X11_refusalOfPlace.2.2.2 ∈ xtb := xt_5 3 rfl rfl
set_option maxRecDepth 100000 in
theorem w_184 : Cond.code M_X11_billComes.1 M_X11_billComes.2.1 M_X11_billComes.2.2.1 M_X11_billComes.2.2.2 ∈ xtb := xt_2 88 rfl rfl
set_option maxRecDepth 100000 in
theorem w_185 : Cond.code M_X11_isBetterPack.1 M_X11_isBetterPack.2.1 M_X11_isBetterPack.2.2.1 M_X11_isBetterPack.2.2.2 ∈ xtb := xt_3 201 rfl rfl
set_option maxRecDepth 100000 in
theorem w_186 : Cond.code M_X11_twelves.1 M_X11_twelves.2.1 M_X11_twelves.2.2.1 M_X11_twelves.2.2.2 ∈ xtb := xt_3 98 rfl rfl
set_option maxRecDepth 100000 in
theorem w_187 : Cond.code M_X11_partOf.1 M_X11_partOf.2.1 M_X11_partOf.2.2.1 M_X11_partOf.2.2.2 ∈ xtb := xt_3 102 rfl rfl
set_option maxRecDepth 100000 in
theorem w_188 : Cond.code M_X11_commonOf.1 M_X11_commonOf.2.1 M_X11_commonOf.2.2.1 M_X11_commonOf.2.2.2 ∈ xtb := xt_3 105 rfl rfl
set_option maxRecDepth 100000 in
theorem w_189 : Cond.code M_X12_init.1 M_X12_init.2.1 M_X12_init.2.2.1 M_X12_init.2.2.2 ∈ xtb := xt_5 71 rfl rfl
theorem w_190 : Cond.initialized "CradleVetoModel" ∈ xtb := xt_1 13 (by decide +kernel) rfl
set_option maxRecDepth 100000 in
theorem w_191 : Cond.code M_X12_in.1 M_X12_in.2.1 M_X12_in.2.2.1 M_X12_in.2.2.2 ∈ xtb := xt_6 0 rfl rfl
set_option maxRecDepth 100000 in
theorem w_192 : Cond.code M_X12_has.1 M_X12_has.2.1 M_X12_has.2.2.1 M_X12_has.2.2.2 ∈ xtb := xt_6 234 rfl rfl
set_option maxRecDepth 100000 in
theorem w_193 : Cond.code M_X12_bitsOf.1 M_X12_bitsOf.2.1 M_X12_bitsOf.2.2.1 M_X12_bitsOf.2.2.2 ∈ xtb := xt_6 222 rfl rfl
set_option maxRecDepth 100000 in
theorem w_194 : Cond.code M_X12_isBill.1 M_X12_isBill.2.1 M_X12_isBill.2.2.1 M_X12_isBill.2.2.2 ∈ xtb := xt_6 40 rfl rfl
set_option maxRecDepth 100000 in
theorem w_195 : Cond.code M_X12_isSenator.1 M_X12_isSenator.2.1 M_X12_isSenator.2.2.1 M_X12_isSenator.2.2.2 ∈ xtb := xt_6 44 rfl rfl
set_option maxRecDepth 100000 in
theorem w_196 : Cond.code M_X12_areTwo.1 M_X12_areTwo.2.1 M_X12_areTwo.2.2.1 M_X12_areTwo.2.2.2 ∈ xtb := xt_6 131 rfl rfl
set_option maxRecDepth 100000 in
theorem w_197 : Cond.code M_X12_addBill.1 M_X12_addBill.2.1 M_X12_addBill.2.2.1 M_X12_addBill.2.2.2 ∈ xtb := xt_6 4 rfl rfl
set_option maxRecDepth 100000 in
theorem w_198 : Cond.code M_X12_bill.1 M_X12_bill.2.1 M_X12_bill.2.2.1 M_X12_bill.2.2.2 ∈ xtb := xt_5 237 rfl rfl
set_option maxRecDepth 100000 in
theorem w_199 : Cond.code M_X12_bills.1 M_X12_bills.2.1 M_X12_bills.2.2.1 M_X12_bills.2.2.2 ∈ xtb := xt_6 8 rfl rfl
set_option maxRecDepth 100000 in
theorem w_200 : Cond.code M_X12_senator.1 M_X12_senator.2.1 M_X12_senator.2.2.1 M_X12_senator.2.2.2 ∈ xtb := xt_6 16 rfl rfl
set_option maxRecDepth 100000 in
theorem w_201 : Cond.code M_X12_valueAt.1 M_X12_valueAt.2.1 M_X12_valueAt.2.2.1 M_X12_valueAt.2.2.2 ∈ xtb := xt_6 55 rfl rfl
set_option maxRecDepth 100000 in
theorem w_202 : Cond.code M_X12_lays.1 M_X12_lays.2.1 M_X12_lays.2.2.1 M_X12_lays.2.2.2 ∈ xtb := xt_6 24 rfl rfl
set_option maxRecDepth 100000 in
theorem w_203 : Cond.code M_X12_changes.1 M_X12_changes.2.1 M_X12_changes.2.2.1 M_X12_changes.2.2.2 ∈ xtb := xt_6 51 rfl rfl
set_option maxRecDepth 100000 in
theorem w_204 : Cond.code M_X12_undo.1 M_X12_undo.2.1 M_X12_undo.2.2.1 M_X12_undo.2.2.2 ∈ xtb := xt_6 20 rfl rfl
set_option maxRecDepth 100000 in
theorem w_205 : Cond.code M_X12_redo.1 M_X12_redo.2.1 M_X12_redo.2.2.1 M_X12_redo.2.2.2 ∈ xtb := xt_6 28 rfl rfl
set_option maxRecDepth 100000 in
theorem w_206 : Cond.code M_X12_isPlace.1 M_X12_isPlace.2.1 M_X12_isPlace.2.2.1 M_X12_isPlace.2.2.2 ∈ xtb := xt_6 36 rfl rfl
set_option maxRecDepth 100000 in
theorem w_207 : Cond.code M_X12_mayHave.1 M_X12_mayHave.2.1 M_X12_mayHave.2.2.1 M_X12_mayHave.2.2.2 ∈ xtb := xt_6 47 rfl rfl
set_option maxRecDepth 100000 in
theorem w_208 : Cond.code M_X12_mend.1 M_X12_mend.2.1 M_X12_mend.2.2.1 M_X12_mend.2.2.2 ∈ xtb := xt_6 32 rfl rfl
set_option maxRecDepth 100000 in
theorem w_209 : Cond.code M_X12_of.1 M_X12_of.2.1 M_X12_of.2.2.1 M_X12_of.2.2.2 ∈ xtb := xt_6 60 rfl rfl
set_option maxRecDepth 100000 in
theorem w_210 : Cond.code M_X12_feed.1 M_X12_feed.2.1 M_X12_feed.2.2.1 M_X12_feed.2.2.2 ∈ xtb := xt_6 64 rfl rfl
set_option maxRecDepth 100000 in
theorem w_211 : Cond.code M_X12_look.1 M_X12_look.2.1 M_X12_look.2.2.1 M_X12_look.2.2.2 ∈ xtb := xt_6 104 rfl rfl
set_option maxRecDepth 100000 in
theorem w_212 : Cond.code M_X12_wrong.1 M_X12_wrong.2.1 M_X12_wrong.2.2.1 M_X12_wrong.2.2.2 ∈ xtb := xt_6 119 rfl rfl
set_option maxRecDepth 100000 in
theorem w_213 : Cond.code M_X12_addStep.1 M_X12_addStep.2.1 M_X12_addStep.2.2.1 M_X12_addStep.2.2.2 ∈ xtb := xt_6 111 rfl rfl
set_option maxRecDepth 100000 in
theorem w_214 : Cond.code M_X12_nameOf.1 M_X12_nameOf.2.1 M_X12_nameOf.2.2.1 M_X12_nameOf.2.2.2 ∈ xtb := xt_6 107 rfl rfl
set_option maxRecDepth 100000 in
theorem w_215 : Cond.code M_X12_opens.1 M_X12_opens.2.1 M_X12_opens.2.2.1 M_X12_opens.2.2.2 ∈ xtb := xt_6 115 rfl rfl
set_option maxRecDepth 100000 in
theorem w_216 : Cond.code M_X12_figure.1 M_X12_figure.2.1 M_X12_figure.2.2.1 M_X12_figure.2.2.2 ∈ xtb := xt_6 123 rfl rfl
set_option maxRecDepth 100000 in
theorem w_217 : Cond.code M_X12_operand.1 M_X12_operand.2.1 M_X12_operand.2.2.1 M_X12_operand.2.2.2 ∈ xtb := xt_6 100 rfl rfl
set_option maxRecDepth 100000 in
theorem w_218 : Cond.code M_X12_product.1 M_X12_product.2.1 M_X12_product.2.2.1 M_X12_product.2.2.2 ∈ xtb := xt_6 96 rfl rfl
set_option maxRecDepth 100000 in
theorem w_219 : Cond.code M_X12_sum.1 M_X12_sum.2.1 M_X12_sum.2.2.1 M_X12_sum.2.2.2 ∈ xtb := xt_6 92 rfl rfl
set_option maxRecDepth 100000 in
theorem w_220 : Cond.code M_X12_compared.1 M_X12_compared.2.1 M_X12_compared.2.2.1 M_X12_compared.2.2.2 ∈ xtb := xt_6 88 rfl rfl
set_option maxRecDepth 100000 in
theorem w_221 : Cond.code M_X12_both.1 M_X12_both.2.1 M_X12_both.2.2.1 M_X12_both.2.2.2 ∈ xtb := xt_6 84 rfl rfl
set_option maxRecDepth 100000 in
theorem w_222 : Cond.code M_X12_either.1 M_X12_either.2.1 M_X12_either.2.2.1 M_X12_either.2.2.2 ∈ xtb := xt_6 80 rfl rfl
set_option maxRecDepth 100000 in
theorem w_223 : Cond.code M_X12_line.1 M_X12_line.2.1 M_X12_line.2.2.1 M_X12_line.2.2.2 ∈ xtb := xt_6 76 rfl rfl
set_option maxRecDepth 100000 in
theorem w_224 : Cond.code M_X12_readText.1 M_X12_readText.2.1 M_X12_readText.2.2.1 M_X12_readText.2.2.2 ∈ xtb := xt_6 72 rfl rfl
set_option maxRecDepth 100000 in
theorem w_225 : Cond.code M_X12_twoOf.1 M_X12_twoOf.2.1 M_X12_twoOf.2.2.1 M_X12_twoOf.2.2.2 ∈ xtb := xt_6 154 rfl rfl
set_option maxRecDepth 100000 in
theorem w_226 : Cond.code M_X12_worked.1 M_X12_worked.2.1 M_X12_worked.2.2.1 M_X12_worked.2.2.2 ∈ xtb := xt_6 151 rfl rfl
set_option maxRecDepth 100000 in
theorem w_227 : Cond.code M_X12_gives.1 M_X12_gives.2.1 M_X12_gives.2.2.1 M_X12_gives.2.2.2 ∈ xtb := xt_6 147 rfl rfl
set_option maxRecDepth 100000 in
theorem w_228 : Cond.code M_X12_law.1 M_X12_law.2.1 M_X12_law.2.2.1 M_X12_law.2.2.2 ∈ xtb := xt_6 68 rfl rfl
set_option maxRecDepth 100000 in
theorem w_229 : Cond.code M_X12_criesBy.1 M_X12_criesBy.2.1 M_X12_criesBy.2.2.1 M_X12_criesBy.2.2.2 ∈ xtb := xt_6 143 rfl rfl
set_option maxRecDepth 100000 in
theorem w_230 : Cond.code M_X12_sinceWith.1 M_X12_sinceWith.2.1 M_X12_sinceWith.2.2.1 M_X12_sinceWith.2.2.2 ∈ xtb := xt_6 139 rfl rfl
set_option maxRecDepth 100000 in
theorem w_231 : Cond.code M_X12_nextBy.1 M_X12_nextBy.2.1 M_X12_nextBy.2.2.1 M_X12_nextBy.2.2.2 ∈ xtb := xt_6 135 rfl rfl
set_option maxRecDepth 100000 in
theorem w_232 : Cond.code M_X12_cross.1 M_X12_cross.2.1 M_X12_cross.2.2.1 M_X12_cross.2.2.2 ∈ xtb := xt_6 127 rfl rfl
set_option maxRecDepth 100000 in
theorem w_233 : Cond.code M_X12_reader.1 M_X12_reader.2.1 M_X12_reader.2.2.1 M_X12_reader.2.2.2 ∈ xtb := xt_6 158 rfl rfl
set_option maxRecDepth 100000 in
theorem w_234 : Cond.code M_X12_rowFault.1 M_X12_rowFault.2.1 M_X12_rowFault.2.2.1 M_X12_rowFault.2.2.2 ∈ xtb := xt_6 170 rfl rfl
set_option maxRecDepth 100000 in
theorem w_235 : Cond.code M_X12_at.1 M_X12_at.2.1 M_X12_at.2.2.1 M_X12_at.2.2.2 ∈ xtb := xt_6 179 rfl rfl
set_option maxRecDepth 100000 in
theorem w_236 : Cond.code M_X12_layAgenda.1 M_X12_layAgenda.2.1 M_X12_layAgenda.2.2.1 M_X12_layAgenda.2.2.2 ∈ xtb := xt_6 175 rfl rfl
set_option maxRecDepth 100000 in
theorem w_237 : Cond.code M_X12_layWeights.1 M_X12_layWeights.2.1 M_X12_layWeights.2.2.1 M_X12_layWeights.2.2.2 ∈ xtb := xt_6 183 rfl rfl
set_option maxRecDepth 100000 in
theorem w_238 : Cond.code M_X12_goReading.1 M_X12_goReading.2.1 M_X12_goReading.2.2.1 M_X12_goReading.2.2.2 ∈ xtb := xt_6 187 rfl rfl
set_option maxRecDepth 100000 in
theorem w_239 : Cond.code M_X12_lowest.1 M_X12_lowest.2.1 M_X12_lowest.2.2.1 M_X12_lowest.2.2.2 ∈ xtb := xt_6 191 rfl rfl
set_option maxRecDepth 100000 in
theorem w_240 : Cond.code M_X12_mayAsk.1 M_X12_mayAsk.2.1 M_X12_mayAsk.2.2.1 M_X12_mayAsk.2.2.2 ∈ xtb := xt_6 166 rfl rfl
set_option maxRecDepth 100000 in
theorem w_241 : Cond.code M_X12_passes.1 M_X12_passes.2.1 M_X12_passes.2.2.1 M_X12_passes.2.2.2 ∈ xtb := xt_6 162 rfl rfl
set_option maxRecDepth 100000 in
theorem w_242 : Cond.code M_X12_firstOf.1 M_X12_firstOf.2.1 M_X12_firstOf.2.2.1 M_X12_firstOf.2.2.2 ∈ xtb := xt_6 199 rfl rfl
set_option maxRecDepth 100000 in
theorem w_243 : Cond.code M_X12_allWeight.1 M_X12_allWeight.2.1 M_X12_allWeight.2.2.1 M_X12_allWeight.2.2.2 ∈ xtb := xt_6 203 rfl rfl
set_option maxRecDepth 100000 in
theorem w_244 : Cond.code M_X12_quiet.1 M_X12_quiet.2.1 M_X12_quiet.2.2.1 M_X12_quiet.2.2.2 ∈ xtb := xt_6 195 rfl rfl
set_option maxRecDepth 100000 in
theorem w_245 : Cond.code M_X12_goMean.1 M_X12_goMean.2.1 M_X12_goMean.2.2.1 M_X12_goMean.2.2.2 ∈ xtb := xt_6 211 rfl rfl
set_option maxRecDepth 100000 in
theorem w_246 : Cond.code M_X12_mean.1 M_X12_mean.2.1 M_X12_mean.2.2.1 M_X12_mean.2.2.2 ∈ xtb := xt_6 207 rfl rfl
set_option maxRecDepth 100000 in
theorem w_247 : Cond.code M_X12_goOrder.1 M_X12_goOrder.2.1 M_X12_goOrder.2.2.1 M_X12_goOrder.2.2.2 ∈ xtb := xt_6 231 rfl rfl
set_option maxRecDepth 100000 in
theorem w_248 : Cond.code M_X12_mayOrder.1 M_X12_mayOrder.2.1 M_X12_mayOrder.2.2.1 M_X12_mayOrder.2.2.2 ∈ xtb := xt_6 219 rfl rfl
set_option maxRecDepth 100000 in
theorem w_249 : Cond.code M_X12_findOrder.1 M_X12_findOrder.2.1 M_X12_findOrder.2.2.1 M_X12_findOrder.2.2.2 ∈ xtb := xt_6 226 rfl rfl
set_option maxRecDepth 100000 in
theorem w_250 : Cond.code M_X12_order.1 M_X12_order.2.1 M_X12_order.2.2.1 M_X12_order.2.2.2 ∈ xtb := xt_6 215 rfl rfl
set_option maxRecDepth 100000 in
theorem w_251 : Cond.code M_X12_orderWorth.1 M_X12_orderWorth.2.1 M_X12_orderWorth.2.2.1 M_X12_orderWorth.2.2.2 ∈ xtb := xt_6 238 rfl rfl
set_option maxRecDepth 100000 in
theorem w_252 : Cond.code M_X12_lengthsOf.1 M_X12_lengthsOf.2.1 M_X12_lengthsOf.2.2.1 M_X12_lengthsOf.2.2.2 ∈ xtb := xt_7 6 rfl rfl
set_option maxRecDepth 100000 in
theorem w_253 : Cond.code M_X12_worthsOf.1 M_X12_worthsOf.2.1 M_X12_worthsOf.2.2.1 M_X12_worthsOf.2.2.2 ∈ xtb := xt_7 10 rfl rfl
set_option maxRecDepth 100000 in
theorem w_254 : Cond.code M_X12_pack.1 M_X12_pack.2.1 M_X12_pack.2.2.1 M_X12_pack.2.2.2 ∈ xtb := xt_7 2 rfl rfl
set_option maxRecDepth 100000 in
theorem w_255 : Cond.code M_X12_isThree.1 M_X12_isThree.2.1 M_X12_isThree.2.2.1 M_X12_isThree.2.2.2 ∈ xtb := xt_7 26 rfl rfl
set_option maxRecDepth 100000 in
theorem w_256 : Cond.code M_X12_chanceBy.1 M_X12_chanceBy.2.1 M_X12_chanceBy.2.2.1 M_X12_chanceBy.2.2.2 ∈ xtb := xt_7 22 rfl rfl
set_option maxRecDepth 100000 in
theorem w_257 : Cond.code M_X12_layChances.1 M_X12_layChances.2.1 M_X12_layChances.2.2.1 M_X12_layChances.2.2.2 ∈ xtb := xt_7 18 rfl rfl
set_option maxRecDepth 100000 in
theorem w_258 : Cond.code M_X12_likeliest.1 M_X12_likeliest.2.1 M_X12_likeliest.2.2.1 M_X12_likeliest.2.2.2 ∈ xtb := xt_7 30 rfl rfl
set_option maxRecDepth 100000 in
theorem w_259 : Cond.code M_X12_causes.1 M_X12_causes.2.1 M_X12_causes.2.2.1 M_X12_causes.2.2.2 ∈ xtb := xt_7 14 rfl rfl
set_option maxRecDepth 100000 in
theorem w_260 : Cond.code M_X12_cause.1 M_X12_cause.2.1 M_X12_cause.2.2.1 M_X12_cause.2.2.2 ∈ xtb := xt_7 34 rfl rfl
set_option maxRecDepth 100000 in
theorem w_261 : Cond.code M_X12_differBy.1 M_X12_differBy.2.1 M_X12_differBy.2.2.1 M_X12_differBy.2.2.2 ∈ xtb := xt_7 42 rfl rfl
set_option maxRecDepth 100000 in
theorem w_262 : Cond.code M_X12_apart.1 M_X12_apart.2.1 M_X12_apart.2.2.1 M_X12_apart.2.2.2 ∈ xtb := xt_7 38 rfl rfl
set_option maxRecDepth 100000 in
theorem w_263 : Cond.code M_X12_power.1 M_X12_power.2.1 M_X12_power.2.2.1 M_X12_power.2.2.2 ∈ xtb := xt_7 46 rfl rfl
set_option maxRecDepth 100000 in
theorem w_264 : Cond.code M_X12_senatorsOf.1 M_X12_senatorsOf.2.1 M_X12_senatorsOf.2.2.1 M_X12_senatorsOf.2.2.2 ∈ xtb := xt_7 54 rfl rfl
set_option maxRecDepth 100000 in
theorem w_265 : Cond.code M_X12_leagues.1 M_X12_leagues.2.1 M_X12_leagues.2.2.1 M_X12_leagues.2.2.2 ∈ xtb := xt_7 50 rfl rfl
set_option maxRecDepth 100000 in
theorem w_266 : Cond.code M_X12_windBy.1 M_X12_windBy.2.1 M_X12_windBy.2.2.1 M_X12_windBy.2.2.2 ∈ xtb := xt_7 65 rfl rfl
set_option maxRecDepth 100000 in
theorem w_267 : Cond.code M_X12_bestOf.1 M_X12_bestOf.2.1 M_X12_bestOf.2.2.1 M_X12_bestOf.2.2.2 ∈ xtb := xt_7 62 rfl rfl
set_option maxRecDepth 100000 in
theorem w_268 : Cond.code M_X12_byTurns.1 M_X12_byTurns.2.1 M_X12_byTurns.2.2.1 M_X12_byTurns.2.2.2 ∈ xtb := xt_7 58 rfl rfl
set_option maxRecDepth 100000 in
theorem w_269 : Cond.code M_X12_drawn.1 M_X12_drawn.2.1 M_X12_drawn.2.2.1 M_X12_drawn.2.2.2 ∈ xtb := xt_7 69 rfl rfl
set_option maxRecDepth 100000 in
theorem w_270 : Cond.code M_X12_read.1 M_X12_read.2.1 M_X12_read.2.2.1 M_X12_read.2.2.2 ∈ xtb := xt_7 74 rfl rfl
set_option maxRecDepth 100000 in
theorem w_271 : Cond.code M_X12_fed.1 M_X12_fed.2.1 M_X12_fed.2.2.1 M_X12_fed.2.2.2 ∈ xtb := xt_7 78 rfl rfl
set_option maxRecDepth 100000 in
theorem w_272 : Cond.code M_X12_born.1 M_X12_born.2.1 M_X12_born.2.2.1 M_X12_born.2.2.2 ∈ xtb := xt_7 82 rfl rfl
set_option maxRecDepth 100000 in
theorem w_273 : Cond.code M_X12_pass.1 M_X12_pass.2.1 M_X12_pass.2.2.1 M_X12_pass.2.2.2 ∈ xtb := xt_7 86 rfl rfl
set_option maxRecDepth 100000 in
theorem w_274 : Cond.code M_X12_led.1 M_X12_led.2.1 M_X12_led.2.2.1 M_X12_led.2.2.2 ∈ xtb := xt_7 90 rfl rfl
set_option maxRecDepth 100000 in
theorem w_275 : Cond.code M_X12_image.1 M_X12_image.2.1 M_X12_image.2.2.1 M_X12_image.2.2.2 ∈ xtb := xt_7 94 rfl rfl
set_option maxRecDepth 100000 in
theorem w_276 : Cond.code M_X12_back.1 M_X12_back.2.1 M_X12_back.2.2.1 M_X12_back.2.2.2 ∈ xtb := xt_7 98 rfl rfl
set_option maxRecDepth 100000 in
theorem w_277 : Cond.code M_X12_isBody.1 M_X12_isBody.2.1 M_X12_isBody.2.2.1 M_X12_isBody.2.2.2 ∈ xtb := xt_7 114 rfl rfl
set_option maxRecDepth 100000 in
theorem w_278 : Cond.code M_X12_ran.1 M_X12_ran.2.1 M_X12_ran.2.2.1 M_X12_ran.2.2.2 ∈ xtb := xt_7 125 rfl rfl
set_option maxRecDepth 100000 in
theorem w_279 : Cond.code M_X12_trace.1 M_X12_trace.2.1 M_X12_trace.2.2.1 M_X12_trace.2.2.2 ∈ xtb := xt_7 102 rfl rfl
set_option maxRecDepth 100000 in
theorem w_280 : Cond.code M_X12_body.1 M_X12_body.2.1 M_X12_body.2.2.1 M_X12_body.2.2.2 ∈ xtb := xt_7 106 rfl rfl
set_option maxRecDepth 100000 in
theorem w_281 : Cond.code M_X12_isUnder.1 M_X12_isUnder.2.1 M_X12_isUnder.2.2.1 M_X12_isUnder.2.2.2 ∈ xtb := xt_7 121 rfl rfl
set_option maxRecDepth 100000 in
theorem w_282 : Cond.code M_X12_plainReads.1 M_X12_plainReads.2.1 M_X12_plainReads.2.2.1 M_X12_plainReads.2.2.2 ∈ xtb := xt_7 129 rfl rfl
set_option maxRecDepth 100000 in
theorem w_283 : Cond.code M_X12_twinReads.1 M_X12_twinReads.2.1 M_X12_twinReads.2.2.1 M_X12_twinReads.2.2.2 ∈ xtb := xt_7 133 rfl rfl
set_option maxRecDepth 100000 in
theorem w_284 : Cond.code M_X12_reading.1 M_X12_reading.2.1 M_X12_reading.2.2.1 M_X12_reading.2.2.2 ∈ xtb := xt_7 118 rfl rfl
set_option maxRecDepth 100000 in
theorem w_285 : Cond.code M_X12_plainCries.1 M_X12_plainCries.2.1 M_X12_plainCries.2.2.1 M_X12_plainCries.2.2.2 ∈ xtb := xt_7 145 rfl rfl
set_option maxRecDepth 100000 in
theorem w_286 : Cond.code M_X12_cryCries.1 M_X12_cryCries.2.1 M_X12_cryCries.2.2.1 M_X12_cryCries.2.2.2 ∈ xtb := xt_7 141 rfl rfl
set_option maxRecDepth 100000 in
theorem w_287 : Cond.code M_X12_crying.1 M_X12_crying.2.1 M_X12_crying.2.2.1 M_X12_crying.2.2.2 ∈ xtb := xt_7 137 rfl rfl
set_option maxRecDepth 100000 in
theorem w_288 : Cond.code M_X12_plainHushes.1 M_X12_plainHushes.2.1 M_X12_plainHushes.2.2.1 M_X12_plainHushes.2.2.2 ∈ xtb := xt_7 157 rfl rfl
set_option maxRecDepth 100000 in
theorem w_289 : Cond.code M_X12_nurseHushes.1 M_X12_nurseHushes.2.1 M_X12_nurseHushes.2.2.1 M_X12_nurseHushes.2.2.2 ∈ xtb := xt_7 153 rfl rfl
set_option maxRecDepth 100000 in
theorem w_290 : Cond.code M_X12_hushing.1 M_X12_hushing.2.1 M_X12_hushing.2.2.1 M_X12_hushing.2.2.2 ∈ xtb := xt_7 149 rfl rfl
set_option maxRecDepth 100000 in
theorem w_291 : Cond.code M_X12_plainTells.1 M_X12_plainTells.2.1 M_X12_plainTells.2.2.1 M_X12_plainTells.2.2.2 ∈ xtb := xt_7 165 rfl rfl
set_option maxRecDepth 100000 in
theorem w_292 : Cond.code M_X12_telling.1 M_X12_telling.2.1 M_X12_telling.2.2.1 M_X12_telling.2.2.2 ∈ xtb := xt_7 161 rfl rfl
set_option maxRecDepth 100000 in
theorem w_293 : Cond.code M_X12_act.1 M_X12_act.2.1 M_X12_act.2.2.1 M_X12_act.2.2.2 ∈ xtb := xt_7 110 rfl rfl
set_option maxRecDepth 100000 in
theorem w_294 : Cond.code M_X12_count.1 M_X12_count.2.1 M_X12_count.2.2.1 M_X12_count.2.2.2 ∈ xtb := xt_7 169 rfl rfl
set_option maxRecDepth 100000 in
theorem w_295 : Cond.code M_X12_isShelf.1 M_X12_isShelf.2.1 M_X12_isShelf.2.2.1 M_X12_isShelf.2.2.2 ∈ xtb := xt_6 11 rfl rfl
set_option maxRecDepth 100000 in
theorem w_296 : Cond.code M_X12_keep.1 M_X12_keep.2.1 M_X12_keep.2.2.1 M_X12_keep.2.2.2 ∈ xtb := xt_7 173 rfl rfl
set_option maxRecDepth 100000 in
theorem w_297 : Cond.code M_X12_row.1 M_X12_row.2.1 M_X12_row.2.2.1 M_X12_row.2.2.2 ∈ xtb := xt_7 177 rfl rfl
set_option maxRecDepth 100000 in
theorem w_298 : Cond.code M_X12_whyNoPlace.1 M_X12_whyNoPlace.2.1 M_X12_whyNoPlace.2.2.1 M_X12_whyNoPlace.2.2.2 ∈ xtb := xt_7 185 rfl rfl
set_option maxRecDepth 100000 in
theorem w_299 : Cond.code M_X12_put.1 M_X12_put.2.1 M_X12_put.2.2.1 M_X12_put.2.2.2 ∈ xtb := xt_7 181 rfl rfl
set_option maxRecDepth 100000 in
theorem w_300 : Cond.code M_X12_element.1 M_X12_element.2.1 M_X12_element.2.2.1 M_X12_element.2.2.2 ∈ xtb := xt_7 189 rfl rfl
set_option maxRecDepth 100000 in
theorem w_301 : Cond.code M_X12_shift.1 M_X12_shift.2.1 M_X12_shift.2.2.1 M_X12_shift.2.2.2 ∈ xtb := xt_7 193 rfl rfl
set_option maxRecDepth 100000 in
theorem w_302 : Cond.code M_X12_taken.1 M_X12_taken.2.1 M_X12_taken.2.2.1 M_X12_taken.2.2.2 ∈ xtb := xt_7 197 rfl rfl
set_option maxRecDepth 100000 in
theorem w_303 : Cond.code M_J6_bitCount_0f7a4.1 M_J6_bitCount_0f7a4.2.1 M_J6_bitCount_0f7a4.2.2.1 M_J6_bitCount_0f7a4.2.2.2 ∈ xtb := xt_3 148 rfl rfl
theorem w_304 : Cond.initialized "java/lang/Integer" ∈ xtb := xt_1 17 (by decide +kernel) rfl
set_option maxRecDepth 100000 in
theorem w_305 : Cond.code M_J9_abs_0f7a4.1 M_J9_abs_0f7a4.2.1 M_J9_abs_0f7a4.2.2.1 M_J9_abs_0f7a4.2.2.2 ∈ xtb := xt_4 10 rfl rfl
theorem w_306 : Cond.initialized "java/lang/Math" ∈ xtb := xt_1 15 (by decide +kernel) rfl
set_option maxRecDepth 100000 in
theorem w_307 : Cond.code M_J9_max_7cf53.1 M_J9_max_7cf53.2.1 M_J9_max_7cf53.2.2.1 M_J9_max_7cf53.2.2.2 ∈ xtb := xt_3 41 rfl rfl
set_option maxRecDepth 100000 in
theorem w_308 : Cond.code M_J9_max_f86c9.1 M_J9_max_f86c9.2.1 M_J9_max_f86c9.2.2.1 M_J9_max_f86c9.2.2.2 ∈ xtb := xt_3 108 rfl rfl
set_option maxRecDepth 100000 in
theorem w_309 : Cond.code M_J9_min_7cf53.1 M_J9_min_7cf53.2.1 M_J9_min_7cf53.2.2.1 M_J9_min_7cf53.2.2.2 ∈ xtb := xt_2 221 rfl rfl
set_option maxRecDepth 100000 in
theorem w_310 : Cond.code M_J7_fill_d0a16.1 M_J7_fill_d0a16.2.1 M_J7_fill_d0a16.2.2.1 M_J7_fill_d0a16.2.2.2 ∈ xtb := xt_3 85 rfl rfl
theorem w_311 : Cond.initialized "java/util/Arrays" ∈ xtb := xt_1 16 (by decide +kernel) rfl
theorem w_312 : Cond.methodLink RX0 1 Lib.objectInit ∈ xtb := xt_1 122 (by decide +kernel) rfl
theorem w_313 : Cond.instanceMethod Lib.objectInit ∈ xtb := xt_1 24 (by decide +kernel) rfl
set_option maxRecDepth 100000 in
theorem w_314 : Cond.code Lib.objectInit ⟨#[0xb1]⟩ 1 none ∈ xtb := xt_1 25 rfl rfl
theorem w_315 : Cond.arrayClass .int ∈ xtb := xt_1 51 (by decide +kernel) rfl
theorem w_316 : Cond.fieldLink RX0 9 (TX0 1).1 (TX0 1).2.1 (TX0 1).2.2.1 ∈ xtb := xt_1 124 (by decide +kernel) rfl
theorem w_317 : Cond.arrayClass .long ∈ xtb := xt_1 139 (by decide +kernel) rfl
theorem w_318 : Cond.fieldLink RX0 13 (TX0 2).1 (TX0 2).2.1 (TX0 2).2.2.1 ∈ xtb := xt_1 125 (by decide +kernel) rfl
theorem w_319 : Cond.fieldLink RX0 17 (TX0 3).1 (TX0 3).2.1 (TX0 3).2.2.1 ∈ xtb := xt_1 126 (by decide +kernel) rfl
theorem w_320 : Cond.fieldLink RX0 20 (TX0 0).1 (TX0 0).2.1 (TX0 0).2.2.1 ∈ xtb := xt_1 123 (by decide +kernel) rfl
theorem w_321 : Cond.fieldLink RX0 24 (TX0 4).1 (TX0 4).2.1 (TX0 4).2.2.1 ∈ xtb := xt_1 127 (by decide +kernel) rfl
theorem w_322 : Cond.methodLink RX0 28 yX9_byteAt ∈ xtb := xt_3 65 (by decide +kernel) rfl
theorem w_323 : Cond.instanceMethod yX9_byteAt ∈ xtb := xt_2 90 (by decide +kernel) rfl
theorem w_324 : Cond.selects yX9_byteAt.cls yX9_byteAt yX9_byteAt ∈ xtb := xt_2 91 (by decide +kernel) rfl
theorem w_325 : Cond.methodLink RX0 34 yX5_reading ∈ xtb := xt_3 66 (by decide +kernel) rfl
theorem w_326 : Cond.instanceMethod yX5_reading ∈ xtb := xt_3 67 (by decide +kernel) rfl
theorem w_327 : Cond.selects yX5_reading.cls yX5_reading yX5_reading ∈ xtb := xt_3 68 (by decide +kernel) rfl
theorem w_328 : Cond.methodLink RX0 40 yJ7_fill_d0a16 ∈ xtb := xt_3 83 (by decide +kernel) rfl
theorem w_329 : Cond.static yJ7_fill_d0a16 ∈ xtb := xt_3 84 (by decide +kernel) rfl
theorem w_330 : Cond.methodLink RX0 46 yX5_its ∈ xtb := xt_3 86 (by decide +kernel) rfl
theorem w_331 : Cond.instanceMethod yX5_its ∈ xtb := xt_3 3 (by decide +kernel) rfl
theorem w_332 : Cond.selects yX5_its.cls yX5_its yX5_its ∈ xtb := xt_3 4 (by decide +kernel) rfl
theorem w_333 : Cond.methodLink RX0 49 yX5_crying ∈ xtb := xt_3 91 (by decide +kernel) rfl
theorem w_334 : Cond.instanceMethod yX5_crying ∈ xtb := xt_3 8 (by decide +kernel) rfl
theorem w_335 : Cond.selects yX5_crying.cls yX5_crying yX5_crying ∈ xtb := xt_3 9 (by decide +kernel) rfl
theorem w_336 : Cond.methodLink RX0 53 yX5_sinceBehind ∈ xtb := xt_3 92 (by decide +kernel) rfl
theorem w_337 : Cond.instanceMethod yX5_sinceBehind ∈ xtb := xt_3 93 (by decide +kernel) rfl
theorem w_338 : Cond.selects yX5_sinceBehind.cls yX5_sinceBehind yX5_sinceBehind ∈ xtb := xt_3 94 (by decide +kernel) rfl
theorem w_339 : Cond.methodLink RX0 56 yX0_begin ∈ xtb := xt_3 79 (by decide +kernel) rfl
theorem w_340 : Cond.instanceMethod yX0_begin ∈ xtb := xt_3 81 (by decide +kernel) rfl
theorem w_341 : Cond.selects yX0_begin.cls yX0_begin yX0_begin ∈ xtb := xtb_k 13 (by decide +kernel) rfl
theorem w_342 : Cond.methodLink RX0 59 yX0_step ∈ xtb := xt_3 87 (by decide +kernel) rfl
theorem w_343 : Cond.instanceMethod yX0_step ∈ xtb := xt_3 89 (by decide +kernel) rfl
theorem w_344 : Cond.selects yX0_step.cls yX0_step yX0_step ∈ xtb := xtb_k 14 (by decide +kernel) rfl
theorem w_345 : Cond.constantLong RX0 63 (12) ∈ xtb := xt_3 129 (by decide +kernel) rfl
theorem w_346 : Cond.methodLink RX0 65 yX5_worth ∈ xtb := xt_3 130 (by decide +kernel) rfl
theorem w_347 : Cond.instanceMethod yX5_worth ∈ xtb := xt_3 131 (by decide +kernel) rfl
theorem w_348 : Cond.selects yX5_worth.cls yX5_worth yX5_worth ∈ xtb := xt_3 132 (by decide +kernel) rfl
theorem w_349 : Cond.methodLink RX0 68 yX4_drawBehind ∈ xtb := xt_4 65 (by decide +kernel) rfl
theorem w_350 : Cond.static yX4_drawBehind ∈ xtb := xt_4 66 (by decide +kernel) rfl
theorem w_351 : Cond.methodLink RX0 73 yX4_cries ∈ xtb := xt_4 69 (by decide +kernel) rfl
theorem w_352 : Cond.static yX4_cries ∈ xtb := xt_4 70 (by decide +kernel) rfl
theorem w_353 : Cond.methodLink RX0 77 yX0_gain ∈ xtb := xt_4 72 (by decide +kernel) rfl
theorem w_354 : Cond.instanceMethod yX0_gain ∈ xtb := xt_4 74 (by decide +kernel) rfl
theorem w_355 : Cond.selects yX0_gain.cls yX0_gain yX0_gain ∈ xtb := xtb_k 22 (by decide +kernel) rfl
theorem w_356 : Cond.methodLink RX1 3 Lib.objectInit ∈ xtb := xt_1 170 (by decide +kernel) rfl
theorem w_357 : Cond.fieldLink RX1 11 (TX1 1).1 (TX1 1).2.1 (TX1 1).2.2.1 ∈ xtb := xt_1 172 (by decide +kernel) rfl
theorem w_358 : Cond.fieldLink RX1 15 (TX1 0).1 (TX1 0).2.1 (TX1 0).2.2.1 ∈ xtb := xt_1 171 (by decide +kernel) rfl
theorem w_359 : Cond.methodLink RX1 21 yX5_its ∈ xtb := xt_3 210 (by decide +kernel) rfl
theorem w_360 : Cond.methodLink RX1 25 yX1_weight ∈ xtb := xt_3 211 (by decide +kernel) rfl
theorem w_361 : Cond.instanceMethod yX1_weight ∈ xtb := xt_3 213 (by decide +kernel) rfl
theorem w_362 : Cond.selects yX1_weight.cls yX1_weight yX1_weight ∈ xtb := xtb_k 19 (by decide +kernel) rfl
theorem w_363 : Cond.methodLink RX1 29 yX9_byteAt ∈ xtb := xt_3 215 (by decide +kernel) rfl
theorem w_364 : Cond.methodLink RX1 34 yX5_reading ∈ xtb := xt_3 216 (by decide +kernel) rfl
theorem w_365 : Cond.methodLink RX1 38 yX5_crying ∈ xtb := xt_3 217 (by decide +kernel) rfl
theorem w_366 : Cond.methodLink RX1 42 yX5_sinceBehind ∈ xtb := xt_3 218 (by decide +kernel) rfl
theorem w_367 : Cond.methodLink RX1 45 yX1_likeliest ∈ xtb := xt_3 235 (by decide +kernel) rfl
theorem w_368 : Cond.instanceMethod yX1_likeliest ∈ xtb := xt_3 224 (by decide +kernel) rfl
theorem w_369 : Cond.selects yX1_likeliest.cls yX1_likeliest yX1_likeliest ∈ xtb := xt_3 225 (by decide +kernel) rfl
theorem w_370 : Cond.methodLink RX1 49 yJ9_abs_0f7a4 ∈ xtb := xt_4 8 (by decide +kernel) rfl
theorem w_371 : Cond.static yJ9_abs_0f7a4 ∈ xtb := xt_4 9 (by decide +kernel) rfl
theorem w_372 : Cond.methodLink RX2 1 Lib.objectInit ∈ xtb := xt_1 94 (by decide +kernel) rfl
theorem w_373 : Cond.fieldLink RX2 9 (TX2 1).1 (TX2 1).2.1 (TX2 1).2.2.1 ∈ xtb := xt_1 96 (by decide +kernel) rfl
theorem w_374 : Cond.fieldLink RX2 13 (TX2 2).1 (TX2 2).2.1 (TX2 2).2.2.1 ∈ xtb := xt_1 97 (by decide +kernel) rfl
theorem w_375 : Cond.fieldLink RX2 16 (TX2 3).1 (TX2 3).2.1 (TX2 3).2.2.1 ∈ xtb := xt_1 98 (by decide +kernel) rfl
theorem w_376 : Cond.fieldLink RX2 19 (TX2 4).1 (TX2 4).2.1 (TX2 4).2.2.1 ∈ xtb := xt_1 99 (by decide +kernel) rfl
theorem w_377 : Cond.fieldLink RX2 22 (TX2 0).1 (TX2 0).2.1 (TX2 0).2.2.1 ∈ xtb := xt_1 95 (by decide +kernel) rfl
theorem w_378 : Cond.fieldLink RX2 26 (TX2 5).1 (TX2 5).2.1 (TX2 5).2.2.1 ∈ xtb := xt_1 100 (by decide +kernel) rfl
theorem w_379 : Cond.fieldLink RX2 30 (TX2 6).1 (TX2 6).2.1 (TX2 6).2.2.1 ∈ xtb := xt_1 101 (by decide +kernel) rfl
theorem w_380 : Cond.methodLink RX2 33 yX2_forgetFirst ∈ xtb := xt_2 134 (by decide +kernel) rfl
theorem w_381 : Cond.instanceMethod yX2_forgetFirst ∈ xtb := xt_2 136 (by decide +kernel) rfl
theorem w_382 : Cond.selects yX2_forgetFirst.cls yX2_forgetFirst yX2_forgetFirst ∈ xtb := xtb_k 2 (by decide +kernel) rfl
theorem w_383 : Cond.methodLink RX2 36 yX5_get ∈ xtb := xt_2 141 (by decide +kernel) rfl
theorem w_384 : Cond.instanceMethod yX5_get ∈ xtb := xt_2 126 (by decide +kernel) rfl
theorem w_385 : Cond.selects yX5_get.cls yX5_get yX5_get ∈ xtb := xt_2 127 (by decide +kernel) rfl
theorem w_386 : Cond.methodLink RX2 42 yX5_set ∈ xtb := xt_2 142 (by decide +kernel) rfl
theorem w_387 : Cond.instanceMethod yX5_set ∈ xtb := xt_2 143 (by decide +kernel) rfl
theorem w_388 : Cond.selects yX5_set.cls yX5_set yX5_set ∈ xtb := xt_2 144 (by decide +kernel) rfl
theorem w_389 : Cond.methodLink RX2 46 arraycopyName ∈ xtb := xt_2 138 (by decide +kernel) rfl
theorem w_390 : Cond.native arraycopyName ∈ xtb := xt_2 140 (by decide +kernel) rfl
theorem w_391 : Cond.static arraycopyName ∈ xtb := xt_2 139 (by decide +kernel) rfl
theorem w_392 : Cond.initialized "java/lang/System" ∈ xtb := xt_1 14 (by decide +kernel) rfl
theorem w_393 : Cond.methodLink RX3 3 Lib.objectInit ∈ xtb := xt_1 227 (by decide +kernel) rfl
theorem w_394 : Cond.fieldLink RX3 11 (TX3 0).1 (TX3 0).2.1 (TX3 0).2.2.1 ∈ xtb := xt_1 228 (by decide +kernel) rfl
theorem w_395 : Cond.fieldLink RX3 15 (TX3 1).1 (TX3 1).2.1 (TX3 1).2.2.1 ∈ xtb := xt_1 229 (by decide +kernel) rfl
theorem w_396 : Cond.methodLink RX3 18 yX3_isKind ∈ xtb := xt_4 195 (by decide +kernel) rfl
theorem w_397 : Cond.static yX3_isKind ∈ xtb := xt_4 170 (by decide +kernel) rfl
theorem w_398 : Cond.fieldLink RX3 22 "CradleVeto$Clauses" "ABOVE" "[I" ∈ xtb := xt_4 198 (by decide +kernel) rfl
theorem w_399 : Cond.fieldLink RX3 25 (TX3 2).1 (TX3 2).2.1 (TX3 2).2.2.1 ∈ xtb := xt_1 230 (by decide +kernel) rfl
theorem w_400 : Cond.fieldLink RX3 29 (TX3 3).1 (TX3 3).2.1 (TX3 3).2.2.1 ∈ xtb := xt_1 231 (by decide +kernel) rfl
theorem w_401 : Cond.methodLink RX3 32 yX3_has ∈ xtb := xt_4 184 (by decide +kernel) rfl
theorem w_402 : Cond.instanceMethod yX3_has ∈ xtb := xt_4 185 (by decide +kernel) rfl
theorem w_403 : Cond.selects yX3_has.cls yX3_has yX3_has ∈ xtb := xt_4 186 (by decide +kernel) rfl
theorem w_404 : Cond.fieldLink RX3 35 (TX3 4).1 (TX3 4).2.1 (TX3 4).2.2.1 ∈ xtb := xt_1 232 (by decide +kernel) rfl
theorem w_405 : Cond.fieldLink RX3 38 (TX3 5).1 (TX3 5).2.1 (TX3 5).2.2.1 ∈ xtb := xt_1 233 (by decide +kernel) rfl
theorem w_406 : Cond.methodLink RX3 41 yX3_run ∈ xtb := xt_4 188 (by decide +kernel) rfl
theorem w_407 : Cond.instanceMethod yX3_run ∈ xtb := xt_4 190 (by decide +kernel) rfl
theorem w_408 : Cond.selects yX3_run.cls yX3_run yX3_run ∈ xtb := xtb_k 23 (by decide +kernel) rfl
theorem w_409 : Cond.fieldLink RX3 45 "CradleVeto$Clauses" "OWN" "[I" ∈ xtb := xt_4 196 (by decide +kernel) rfl
theorem w_410 : Cond.methodLink RX3 48 yX3_holder ∈ xtb := xt_4 192 (by decide +kernel) rfl
theorem w_411 : Cond.static yX3_holder ∈ xtb := xt_4 193 (by decide +kernel) rfl
theorem w_412 : Cond.methodLink RX3 52 yX3_note ∈ xtb := xt_4 200 (by decide +kernel) rfl
theorem w_413 : Cond.instanceMethod yX3_note ∈ xtb := xt_4 202 (by decide +kernel) rfl
theorem w_414 : Cond.selects yX3_note.cls yX3_note yX3_note ∈ xtb := xtb_k 24 (by decide +kernel) rfl
theorem w_415 : Cond.methodLink RX4 1 Lib.objectInit ∈ xtb := xt_1 205 (by decide +kernel) rfl
theorem w_416 : Cond.fieldLink RX4 9 (TX4 1).1 (TX4 1).2.1 (TX4 1).2.2.1 ∈ xtb := xt_1 207 (by decide +kernel) rfl
theorem w_417 : Cond.fieldLink RX4 13 (TX4 2).1 (TX4 2).2.1 (TX4 2).2.2.1 ∈ xtb := xt_1 208 (by decide +kernel) rfl
theorem w_418 : Cond.fieldLink RX4 18 (TX4 3).1 (TX4 3).2.1 (TX4 3).2.2.1 ∈ xtb := xt_1 209 (by decide +kernel) rfl
theorem w_419 : Cond.fieldLink RX4 21 (TX4 0).1 (TX4 0).2.1 (TX4 0).2.2.1 ∈ xtb := xt_1 206 (by decide +kernel) rfl
theorem w_420 : Cond.constant RX4 25 (1103515245) ∈ xtb := xt_4 68 (by decide +kernel) rfl
theorem w_421 : Cond.methodLink RX4 26 yX5_its ∈ xtb := xt_4 84 (by decide +kernel) rfl
theorem w_422 : Cond.methodLink RX4 30 yX4_drawBehind ∈ xtb := xt_4 85 (by decide +kernel) rfl
theorem w_423 : Cond.methodLink RX4 33 yX5_cryingNow ∈ xtb := xt_4 86 (by decide +kernel) rfl
theorem w_424 : Cond.instanceMethod yX5_cryingNow ∈ xtb := xt_2 239 (by decide +kernel) rfl
theorem w_425 : Cond.selects yX5_cryingNow.cls yX5_cryingNow yX5_cryingNow ∈ xtb := xt_3 0 (by decide +kernel) rfl
theorem w_426 : Cond.methodLink RX4 36 yX4_cries ∈ xtb := xt_4 87 (by decide +kernel) rfl
theorem w_427 : Cond.methodLink RX4 40 yX5_sinceBehind ∈ xtb := xt_4 88 (by decide +kernel) rfl
theorem w_428 : Cond.methodLink RX4 44 yX5_set ∈ xtb := xt_4 89 (by decide +kernel) rfl
theorem w_429 : Cond.methodLink RX4 48 yX5_worth ∈ xtb := xt_4 90 (by decide +kernel) rfl
theorem w_430 : Cond.methodLink RX4 51 yX5_later ∈ xtb := xt_4 115 (by decide +kernel) rfl
theorem w_431 : Cond.instanceMethod yX5_later ∈ xtb := xt_3 12 (by decide +kernel) rfl
theorem w_432 : Cond.selects yX5_later.cls yX5_later yX5_later ∈ xtb := xt_3 13 (by decide +kernel) rfl
theorem w_433 : Cond.methodLink RX4 54 arraycopyName ∈ xtb := xt_4 132 (by decide +kernel) rfl
theorem w_434 : Cond.fieldLink RX4 60 (TX4 4).1 (TX4 4).2.1 (TX4 4).2.2.1 ∈ xtb := xt_1 210 (by decide +kernel) rfl
theorem w_435 : Cond.methodLink RX5 3 Lib.objectInit ∈ xtb := xt_1 31 (by decide +kernel) rfl
theorem w_436 : Cond.classLink RX5 9 RX6 ∈ xtb := xt_1 32 (by decide +kernel) rfl
theorem w_437 : Cond.instantiable RX6 4 ∈ xtb := xt_1 33 (by decide +kernel) rfl
theorem w_438 : Cond.initialized RX6 ∈ xtb := xt_1 3 (by decide +kernel) rfl
theorem w_439 : Cond.instanceMethod yX6_init ∈ xtb := xt_1 35 (by decide +kernel) rfl
theorem w_440 : Cond.fieldLink RX5 12 (TX5 0).1 (TX5 0).2.1 (TX5 0).2.2.1 ∈ xtb := xt_1 54 (by decide +kernel) rfl
theorem w_441 : Cond.classLink RX5 18 ("[" ++ (FieldType.array .int).toString) ∈ xtb := xt_1 52 (by decide +kernel) rfl
theorem w_442 : Cond.fieldLink RX5 20 (TX5 1).1 (TX5 1).2.1 (TX5 1).2.2.1 ∈ xtb := xt_1 55 (by decide +kernel) rfl
theorem w_443 : Cond.fieldLink RX5 23 (TX5 2).1 (TX5 2).2.1 (TX5 2).2.2.1 ∈ xtb := xt_1 56 (by decide +kernel) rfl
theorem w_444 : Cond.fieldLink RX5 27 (TX5 3).1 (TX5 3).2.1 (TX5 3).2.2.1 ∈ xtb := xt_1 57 (by decide +kernel) rfl
theorem w_445 : Cond.fieldLink RX5 30 "CradleVeto$House" "LEAST" "[I" ∈ xtb := xt_2 104 (by decide +kernel) rfl
theorem w_446 : Cond.fieldLink RX5 34 "CradleVeto$House" "MOST" "[I" ∈ xtb := xt_2 106 (by decide +kernel) rfl
theorem w_447 : Cond.methodLink RX5 37 yX5_has ∈ xtb := xt_2 129 (by decide +kernel) rfl
theorem w_448 : Cond.instanceMethod yX5_has ∈ xtb := xt_2 121 (by decide +kernel) rfl
theorem w_449 : Cond.selects yX5_has.cls yX5_has yX5_has ∈ xtb := xt_2 122 (by decide +kernel) rfl
theorem w_450 : Cond.methodLink RX5 41 yX5_get ∈ xtb := xt_3 6 (by decide +kernel) rfl
theorem w_451 : Cond.methodLink RX5 45 yX6_become ∈ xtb := xt_2 211 (by decide +kernel) rfl
theorem w_452 : Cond.instanceMethod yX6_become ∈ xtb := xt_2 212 (by decide +kernel) rfl
theorem w_453 : Cond.selects yX6_become.cls yX6_become yX6_become ∈ xtb := xt_2 213 (by decide +kernel) rfl
theorem w_454 : Cond.methodLink RX5 49 yJ9_min_7cf53 ∈ xtb := xt_3 15 (by decide +kernel) rfl
theorem w_455 : Cond.static yJ9_min_7cf53 ∈ xtb := xt_2 220 (by decide +kernel) rfl
theorem w_456 : Cond.methodLink RX5 54 yX5_later ∈ xtb := xt_3 11 (by decide +kernel) rfl
theorem w_457 : Cond.methodLink RX5 57 yX6_tell ∈ xtb := xt_3 16 (by decide +kernel) rfl
theorem w_458 : Cond.instanceMethod yX6_tell ∈ xtb := xt_3 17 (by decide +kernel) rfl
theorem w_459 : Cond.selects yX6_tell.cls yX6_tell yX6_tell ∈ xtb := xt_3 18 (by decide +kernel) rfl
theorem w_460 : Cond.methodLink RX5 61 yX6_isWritten ∈ xtb := xt_3 20 (by decide +kernel) rfl
theorem w_461 : Cond.instanceMethod yX6_isWritten ∈ xtb := xt_3 21 (by decide +kernel) rfl
theorem w_462 : Cond.selects yX6_isWritten.cls yX6_isWritten yX6_isWritten ∈ xtb := xt_3 22 (by decide +kernel) rfl
theorem w_463 : Cond.methodLink RX5 65 yX6_written ∈ xtb := xt_3 24 (by decide +kernel) rfl
theorem w_464 : Cond.instanceMethod yX6_written ∈ xtb := xt_3 25 (by decide +kernel) rfl
theorem w_465 : Cond.selects yX6_written.cls yX6_written yX6_written ∈ xtb := xt_3 26 (by decide +kernel) rfl
theorem w_466 : Cond.methodLink RX5 69 yX6_unwritten ∈ xtb := xt_3 35 (by decide +kernel) rfl
theorem w_467 : Cond.instanceMethod yX6_unwritten ∈ xtb := xt_3 36 (by decide +kernel) rfl
theorem w_468 : Cond.selects yX6_unwritten.cls yX6_unwritten yX6_unwritten ∈ xtb := xt_3 37 (by decide +kernel) rfl
theorem w_469 : Cond.methodLink RX5 72 yJ9_max_7cf53 ∈ xtb := xt_3 39 (by decide +kernel) rfl
theorem w_470 : Cond.static yJ9_max_7cf53 ∈ xtb := xt_3 40 (by decide +kernel) rfl
theorem w_471 : Cond.methodLink RX5 75 yX5_its ∈ xtb := xt_3 2 (by decide +kernel) rfl
theorem w_472 : Cond.methodLink RX5 79 yX5_crying ∈ xtb := xt_3 7 (by decide +kernel) rfl
theorem w_473 : Cond.methodLink RX5 83 yX5_members ∈ xtb := xt_4 23 (by decide +kernel) rfl
theorem w_474 : Cond.instanceMethod yX5_members ∈ xtb := xt_4 24 (by decide +kernel) rfl
theorem w_475 : Cond.selects yX5_members.cls yX5_members yX5_members ∈ xtb := xt_4 25 (by decide +kernel) rfl
theorem w_476 : Cond.methodLink RX6 1 Lib.objectInit ∈ xtb := xt_1 37 (by decide +kernel) rfl
theorem w_477 : Cond.fieldLink RX6 9 (TX6 0).1 (TX6 0).2.1 (TX6 0).2.2.1 ∈ xtb := xt_1 38 (by decide +kernel) rfl
theorem w_478 : Cond.fieldLink RX6 15 (TX6 1).1 (TX6 1).2.1 (TX6 1).2.2.1 ∈ xtb := xt_1 39 (by decide +kernel) rfl
theorem w_479 : Cond.fieldLink RX6 18 (TX6 2).1 (TX6 2).2.1 (TX6 2).2.2.1 ∈ xtb := xt_1 40 (by decide +kernel) rfl
theorem w_480 : Cond.methodLink RX6 21 yX10_codeSize ∈ xtb := xt_2 215 (by decide +kernel) rfl
theorem w_481 : Cond.instanceMethod yX10_codeSize ∈ xtb := xt_2 216 (by decide +kernel) rfl
theorem w_482 : Cond.selects yX10_codeSize.cls yX10_codeSize yX10_codeSize ∈ xtb := xt_2 217 (by decide +kernel) rfl
theorem w_483 : Cond.methodLink RX6 25 yJ9_min_7cf53 ∈ xtb := xt_2 219 (by decide +kernel) rfl
theorem w_484 : Cond.fieldLink RX6 31 (TX6 3).1 (TX6 3).2.1 (TX6 3).2.2.1 ∈ xtb := xt_1 41 (by decide +kernel) rfl
theorem w_485 : Cond.methodLink RX6 35 yX10_codeAt ∈ xtb := xt_2 222 (by decide +kernel) rfl
theorem w_486 : Cond.instanceMethod yX10_codeAt ∈ xtb := xt_2 223 (by decide +kernel) rfl
theorem w_487 : Cond.selects yX10_codeAt.cls yX10_codeAt yX10_codeAt ∈ xtb := xt_2 224 (by decide +kernel) rfl
theorem w_488 : Cond.methodLink RX6 39 yX6_endOfLine ∈ xtb := xt_3 28 (by decide +kernel) rfl
theorem w_489 : Cond.instanceMethod yX6_endOfLine ∈ xtb := xt_3 30 (by decide +kernel) rfl
theorem w_490 : Cond.selects yX6_endOfLine.cls yX6_endOfLine yX6_endOfLine ∈ xtb := xtb_k 11 (by decide +kernel) rfl
theorem w_491 : Cond.methodLink RX6 42 yX6_worked ∈ xtb := xt_3 32 (by decide +kernel) rfl
theorem w_492 : Cond.static yX6_worked ∈ xtb := xt_3 33 (by decide +kernel) rfl
theorem w_493 : Cond.methodLink RX7 1 Lib.objectInit ∈ xtb := xt_1 183 (by decide +kernel) rfl
theorem w_494 : Cond.fieldLink RX7 9 (TX7 1).1 (TX7 1).2.1 (TX7 1).2.2.1 ∈ xtb := xt_1 185 (by decide +kernel) rfl
theorem w_495 : Cond.fieldLink RX7 13 (TX7 2).1 (TX7 2).2.1 (TX7 2).2.2.1 ∈ xtb := xt_1 186 (by decide +kernel) rfl
theorem w_496 : Cond.fieldLink RX7 16 (TX7 0).1 (TX7 0).2.1 (TX7 0).2.2.1 ∈ xtb := xt_1 184 (by decide +kernel) rfl
theorem w_497 : Cond.fieldLink RX7 20 (TX7 3).1 (TX7 3).2.1 (TX7 3).2.2.1 ∈ xtb := xt_1 187 (by decide +kernel) rfl
theorem w_498 : Cond.fieldLink RX7 24 (TX7 4).1 (TX7 4).2.1 (TX7 4).2.2.1 ∈ xtb := xt_1 188 (by decide +kernel) rfl
theorem w_499 : Cond.methodLink RX7 29 yX5_its ∈ xtb := xt_4 36 (by decide +kernel) rfl
theorem w_500 : Cond.methodLink RX7 33 yX5_crying ∈ xtb := xt_4 37 (by decide +kernel) rfl
theorem w_501 : Cond.methodLink RX7 37 yX7_choice ∈ xtb := xt_4 38 (by decide +kernel) rfl
theorem w_502 : Cond.instanceMethod yX7_choice ∈ xtb := xt_4 40 (by decide +kernel) rfl
theorem w_503 : Cond.selects yX7_choice.cls yX7_choice yX7_choice ∈ xtb := xtb_k 20 (by decide +kernel) rfl
theorem w_504 : Cond.methodLink RX7 41 yX7_end ∈ xtb := xt_4 42 (by decide +kernel) rfl
theorem w_505 : Cond.instanceMethod yX7_end ∈ xtb := xt_4 44 (by decide +kernel) rfl
theorem w_506 : Cond.selects yX7_end.cls yX7_end yX7_end ∈ xtb := xtb_k 21 (by decide +kernel) rfl
theorem w_507 : Cond.methodLink RX7 45 arraycopyName ∈ xtb := xt_4 48 (by decide +kernel) rfl
theorem w_508 : Cond.methodLink RX7 51 yJ9_min_7cf53 ∈ xtb := xt_4 46 (by decide +kernel) rfl
theorem w_509 : Cond.methodLink RX7 56 yJ9_max_7cf53 ∈ xtb := xt_4 47 (by decide +kernel) rfl
theorem w_510 : Cond.methodLink RX8 3 Lib.objectInit ∈ xtb := xt_1 145 (by decide +kernel) rfl
theorem w_511 : Cond.fieldLink RX8 11 (TX8 2).1 (TX8 2).2.1 (TX8 2).2.2.1 ∈ xtb := xt_1 148 (by decide +kernel) rfl
theorem w_512 : Cond.fieldLink RX8 15 (TX8 3).1 (TX8 3).2.1 (TX8 3).2.2.1 ∈ xtb := xt_1 149 (by decide +kernel) rfl
theorem w_513 : Cond.fieldLink RX8 18 (TX8 0).1 (TX8 0).2.1 (TX8 0).2.2.1 ∈ xtb := xt_1 146 (by decide +kernel) rfl
theorem w_514 : Cond.fieldLink RX8 22 (TX8 1).1 (TX8 1).2.1 (TX8 1).2.2.1 ∈ xtb := xt_1 147 (by decide +kernel) rfl
theorem w_515 : Cond.methodLink RX8 26 yX5_billCount ∈ xtb := xt_3 142 (by decide +kernel) rfl
theorem w_516 : Cond.instanceMethod yX5_billCount ∈ xtb := xt_3 143 (by decide +kernel) rfl
theorem w_517 : Cond.selects yX5_billCount.cls yX5_billCount yX5_billCount ∈ xtb := xt_3 144 (by decide +kernel) rfl
theorem w_518 : Cond.methodLink RX8 32 yJ6_bitCount_0f7a4 ∈ xtb := xt_3 146 (by decide +kernel) rfl
theorem w_519 : Cond.static yJ6_bitCount_0f7a4 ∈ xtb := xt_3 147 (by decide +kernel) rfl
theorem w_520 : Cond.methodLink RX8 38 yX5_has ∈ xtb := xt_3 152 (by decide +kernel) rfl
theorem w_521 : Cond.fieldLink RX8 42 (TX8 5).1 (TX8 5).2.1 (TX8 5).2.2.1 ∈ xtb := xt_1 151 (by decide +kernel) rfl
theorem w_522 : Cond.fieldLink RX8 46 (TX8 4).1 (TX8 4).2.1 (TX8 4).2.2.1 ∈ xtb := xt_1 150 (by decide +kernel) rfl
theorem w_523 : Cond.methodLink RX8 50 yX8_first ∈ xtb := xt_3 157 (by decide +kernel) rfl
theorem w_524 : Cond.instanceMethod yX8_first ∈ xtb := xt_3 159 (by decide +kernel) rfl
theorem w_525 : Cond.selects yX8_first.cls yX8_first yX8_first ∈ xtb := xtb_k 15 (by decide +kernel) rfl
theorem w_526 : Cond.constantLong RX8 54 (-1) ∈ xtb := xt_3 161 (by decide +kernel) rfl
theorem w_527 : Cond.methodLink RX8 56 yX0_tell ∈ xtb := xt_3 162 (by decide +kernel) rfl
theorem w_528 : Cond.instanceMethod yX0_tell ∈ xtb := xt_3 163 (by decide +kernel) rfl
theorem w_529 : Cond.selects yX0_tell.cls yX0_tell yX0_tell ∈ xtb := xt_3 164 (by decide +kernel) rfl
theorem w_530 : Cond.methodLink RX8 62 yX0_worthOf ∈ xtb := xt_3 166 (by decide +kernel) rfl
theorem w_531 : Cond.instanceMethod yX0_worthOf ∈ xtb := xt_3 126 (by decide +kernel) rfl
theorem w_532 : Cond.selects yX0_worthOf.cls yX0_worthOf yX0_worthOf ∈ xtb := xt_3 127 (by decide +kernel) rfl
theorem w_533 : Cond.methodLink RX8 66 arraycopyName ∈ xtb := xt_3 167 (by decide +kernel) rfl
theorem w_534 : Cond.methodLink RX8 72 yX8_goOn ∈ xtb := xt_3 168 (by decide +kernel) rfl
theorem w_535 : Cond.instanceMethod yX8_goOn ∈ xtb := xt_3 170 (by decide +kernel) rfl
theorem w_536 : Cond.selects yX8_goOn.cls yX8_goOn yX8_goOn ∈ xtb := xtb_k 16 (by decide +kernel) rfl
theorem w_537 : Cond.methodLink RX8 76 yX8_swap ∈ xtb := xt_3 172 (by decide +kernel) rfl
theorem w_538 : Cond.instanceMethod yX8_swap ∈ xtb := xt_3 174 (by decide +kernel) rfl
theorem w_539 : Cond.selects yX8_swap.cls yX8_swap yX8_swap ∈ xtb := xtb_k 17 (by decide +kernel) rfl
theorem w_540 : Cond.methodLink RX9 3 Lib.objectInit ∈ xtb := xt_2 13 (by decide +kernel) rfl
theorem w_541 : Cond.fieldLink RX9 11 (TX9 0).1 (TX9 0).2.1 (TX9 0).2.2.1 ∈ xtb := xt_2 14 (by decide +kernel) rfl
theorem w_542 : Cond.fieldLink RX9 15 (TX9 1).1 (TX9 1).2.1 (TX9 1).2.2.1 ∈ xtb := xt_2 15 (by decide +kernel) rfl
theorem w_543 : Cond.methodLink RX9 19 yX9_isRow ∈ xtb := xt_2 97 (by decide +kernel) rfl
theorem w_544 : Cond.instanceMethod yX9_isRow ∈ xtb := xt_2 98 (by decide +kernel) rfl
theorem w_545 : Cond.selects yX9_isRow.cls yX9_isRow yX9_isRow ∈ xtb := xt_2 99 (by decide +kernel) rfl
theorem w_546 : Cond.fieldLink RX9 23 (TX9 3).1 (TX9 3).2.1 (TX9 3).2.2.1 ∈ xtb := xt_2 17 (by decide +kernel) rfl
theorem w_547 : Cond.fieldLink RX9 26 (TX9 2).1 (TX9 2).2.1 (TX9 2).2.2.1 ∈ xtb := xt_2 16 (by decide +kernel) rfl
theorem w_548 : Cond.methodLink RX9 29 yJ9_min_7cf53 ∈ xtb := xt_4 233 (by decide +kernel) rfl
theorem w_549 : Cond.methodLink RX9 35 yJ9_max_7cf53 ∈ xtb := xt_4 234 (by decide +kernel) rfl
theorem w_550 : Cond.fieldLink RX9 38 (TX9 4).1 (TX9 4).2.1 (TX9 4).2.2.1 ∈ xtb := xt_2 18 (by decide +kernel) rfl
theorem w_551 : Cond.methodLink RX9 41 yJ7_fill_d0a16 ∈ xtb := xt_4 235 (by decide +kernel) rfl
theorem w_552 : Cond.methodLink RX9 47 yX9_hasPlaces ∈ xtb := xt_2 93 (by decide +kernel) rfl
theorem w_553 : Cond.instanceMethod yX9_hasPlaces ∈ xtb := xt_2 94 (by decide +kernel) rfl
theorem w_554 : Cond.selects yX9_hasPlaces.cls yX9_hasPlaces yX9_hasPlaces ∈ xtb := xt_2 95 (by decide +kernel) rfl
theorem w_555 : Cond.methodLink RX9 51 yX9_cut ∈ xtb := xt_5 10 (by decide +kernel) rfl
theorem w_556 : Cond.instanceMethod yX9_cut ∈ xtb := xt_5 12 (by decide +kernel) rfl
theorem w_557 : Cond.selects yX9_cut.cls yX9_cut yX9_cut ∈ xtb := xtb_k 26 (by decide +kernel) rfl
theorem w_558 : Cond.constantLong RX9 55 (-9223372036854775808) ∈ xtb := xt_5 22 (by decide +kernel) rfl
theorem w_559 : Cond.methodLink RX9 57 arraycopyName ∈ xtb := xt_5 35 (by decide +kernel) rfl
theorem w_560 : Cond.methodLink RX10 3 Lib.objectInit ∈ xtb := xt_1 72 (by decide +kernel) rfl
theorem w_561 : Cond.fieldLink RX10 11 (TX10 0).1 (TX10 0).2.1 (TX10 0).2.2.1 ∈ xtb := xt_1 73 (by decide +kernel) rfl
theorem w_562 : Cond.fieldLink RX10 15 (TX10 1).1 (TX10 1).2.1 (TX10 1).2.2.1 ∈ xtb := xt_1 74 (by decide +kernel) rfl
theorem w_563 : Cond.fieldLink RX10 18 (TX10 2).1 (TX10 2).2.1 (TX10 2).2.2.1 ∈ xtb := xt_1 75 (by decide +kernel) rfl
theorem w_564 : Cond.fieldLink RX10 22 (TX10 4).1 (TX10 4).2.1 (TX10 4).2.2.1 ∈ xtb := xt_1 77 (by decide +kernel) rfl
theorem w_565 : Cond.fieldLink RX10 25 (TX10 3).1 (TX10 3).2.1 (TX10 3).2.2.1 ∈ xtb := xt_1 76 (by decide +kernel) rfl
theorem w_566 : Cond.methodLink RX10 28 yX10_isLine ∈ xtb := xt_2 166 (by decide +kernel) rfl
theorem w_567 : Cond.instanceMethod yX10_isLine ∈ xtb := xt_2 168 (by decide +kernel) rfl
theorem w_568 : Cond.selects yX10_isLine.cls yX10_isLine yX10_isLine ∈ xtb := xtb_k 3 (by decide +kernel) rfl
theorem w_569 : Cond.methodLink RX10 32 yX10_emit ∈ xtb := xt_2 189 (by decide +kernel) rfl
theorem w_570 : Cond.instanceMethod yX10_emit ∈ xtb := xt_2 191 (by decide +kernel) rfl
theorem w_571 : Cond.selects yX10_emit.cls yX10_emit yX10_emit ∈ xtb := xtb_k 8 (by decide +kernel) rfl
theorem w_572 : Cond.methodLink RX10 36 yX10_next ∈ xtb := xt_2 178 (by decide +kernel) rfl
theorem w_573 : Cond.instanceMethod yX10_next ∈ xtb := xt_2 180 (by decide +kernel) rfl
theorem w_574 : Cond.selects yX10_next.cls yX10_next yX10_next ∈ xtb := xtb_k 6 (by decide +kernel) rfl
theorem w_575 : Cond.methodLink RX10 40 yX10_isExpression ∈ xtb := xt_2 170 (by decide +kernel) rfl
theorem w_576 : Cond.instanceMethod yX10_isExpression ∈ xtb := xt_2 172 (by decide +kernel) rfl
theorem w_577 : Cond.selects yX10_isExpression.cls yX10_isExpression yX10_isExpression ∈ xtb := xtb_k 4 (by decide +kernel) rfl
theorem w_578 : Cond.methodLink RX10 44 yX10_isOperand ∈ xtb := xt_2 174 (by decide +kernel) rfl
theorem w_579 : Cond.instanceMethod yX10_isOperand ∈ xtb := xt_2 176 (by decide +kernel) rfl
theorem w_580 : Cond.selects yX10_isOperand.cls yX10_isOperand yX10_isOperand ∈ xtb := xtb_k 5 (by decide +kernel) rfl
theorem w_581 : Cond.methodLink RX10 48 yX10_levelOf ∈ xtb := xt_2 204 (by decide +kernel) rfl
theorem w_582 : Cond.static yX10_levelOf ∈ xtb := xt_2 205 (by decide +kernel) rfl
theorem w_583 : Cond.methodLink RX10 52 yX10_isDigit ∈ xtb := xt_2 182 (by decide +kernel) rfl
theorem w_584 : Cond.static yX10_isDigit ∈ xtb := xt_2 183 (by decide +kernel) rfl
theorem w_585 : Cond.methodLink RX10 55 yX10_isNumber ∈ xtb := xt_2 185 (by decide +kernel) rfl
theorem w_586 : Cond.instanceMethod yX10_isNumber ∈ xtb := xt_2 187 (by decide +kernel) rfl
theorem w_587 : Cond.selects yX10_isNumber.cls yX10_isNumber yX10_isNumber ∈ xtb := xtb_k 7 (by decide +kernel) rfl
theorem w_588 : Cond.methodLink RX10 58 yX6_nameOf ∈ xtb := xt_2 193 (by decide +kernel) rfl
theorem w_589 : Cond.static yX6_nameOf ∈ xtb := xt_2 194 (by decide +kernel) rfl
theorem w_590 : Cond.methodLink RX10 63 yX10_isEnclosed ∈ xtb := xt_2 196 (by decide +kernel) rfl
theorem w_591 : Cond.instanceMethod yX10_isEnclosed ∈ xtb := xt_2 198 (by decide +kernel) rfl
theorem w_592 : Cond.selects yX10_isEnclosed.cls yX10_isEnclosed yX10_isEnclosed ∈ xtb := xtb_k 9 (by decide +kernel) rfl
theorem w_593 : Cond.methodLink RX10 66 yX10_isSigned ∈ xtb := xt_2 200 (by decide +kernel) rfl
theorem w_594 : Cond.instanceMethod yX10_isSigned ∈ xtb := xt_2 202 (by decide +kernel) rfl
theorem w_595 : Cond.selects yX10_isSigned.cls yX10_isSigned yX10_isSigned ∈ xtb := xtb_k 10 (by decide +kernel) rfl
theorem w_596 : Cond.methodLink RX11 1 Lib.objectInit ∈ xtb := xt_1 23 (by decide +kernel) rfl
theorem w_597 : Cond.classLink RX11 7 RX5 ∈ xtb := xt_1 26 (by decide +kernel) rfl
theorem w_598 : Cond.instantiable RX5 4 ∈ xtb := xt_1 27 (by decide +kernel) rfl
theorem w_599 : Cond.initialized RX5 ∈ xtb := xt_1 2 (by decide +kernel) rfl
theorem w_600 : Cond.methodLink RX11 9 yX5_init ∈ xtb := xt_1 28 (by decide +kernel) rfl
theorem w_601 : Cond.instanceMethod yX5_init ∈ xtb := xt_1 29 (by decide +kernel) rfl
theorem w_602 : Cond.fieldLink RX11 10 (TX11 0).1 (TX11 0).2.1 (TX11 0).2.2.1 ∈ xtb := xt_2 30 (by decide +kernel) rfl
theorem w_603 : Cond.classLink RX11 16 RX10 ∈ xtb := xt_1 67 (by decide +kernel) rfl
theorem w_604 : Cond.instantiable RX10 5 ∈ xtb := xt_1 68 (by decide +kernel) rfl
theorem w_605 : Cond.initialized RX10 ∈ xtb := xt_1 4 (by decide +kernel) rfl
theorem w_606 : Cond.instanceMethod yX10_init ∈ xtb := xt_1 70 (by decide +kernel) rfl
theorem w_607 : Cond.fieldLink RX11 19 (TX11 1).1 (TX11 1).2.1 (TX11 1).2.2.1 ∈ xtb := xt_2 31 (by decide +kernel) rfl
theorem w_608 : Cond.classLink RX11 23 RX2 ∈ xtb := xt_1 89 (by decide +kernel) rfl
theorem w_609 : Cond.instantiable RX2 7 ∈ xtb := xt_1 90 (by decide +kernel) rfl
theorem w_610 : Cond.initialized RX2 ∈ xtb := xt_1 5 (by decide +kernel) rfl
theorem w_611 : Cond.methodLink RX11 25 yX2_init ∈ xtb := xt_1 91 (by decide +kernel) rfl
theorem w_612 : Cond.instanceMethod yX2_init ∈ xtb := xt_1 92 (by decide +kernel) rfl
theorem w_613 : Cond.fieldLink RX11 28 (TX11 2).1 (TX11 2).2.1 (TX11 2).2.2.1 ∈ xtb := xt_2 32 (by decide +kernel) rfl
theorem w_614 : Cond.classLink RX11 32 RX0 ∈ xtb := xt_1 117 (by decide +kernel) rfl
theorem w_615 : Cond.instantiable RX0 5 ∈ xtb := xt_1 118 (by decide +kernel) rfl
theorem w_616 : Cond.initialized RX0 ∈ xtb := xt_1 6 (by decide +kernel) rfl
theorem w_617 : Cond.methodLink RX11 34 yX0_init ∈ xtb := xt_1 119 (by decide +kernel) rfl
theorem w_618 : Cond.instanceMethod yX0_init ∈ xtb := xt_1 120 (by decide +kernel) rfl
theorem w_619 : Cond.fieldLink RX11 35 (TX11 3).1 (TX11 3).2.1 (TX11 3).2.2.1 ∈ xtb := xt_2 33 (by decide +kernel) rfl
theorem w_620 : Cond.classLink RX11 39 RX8 ∈ xtb := xt_1 140 (by decide +kernel) rfl
theorem w_621 : Cond.instantiable RX8 6 ∈ xtb := xt_1 141 (by decide +kernel) rfl
theorem w_622 : Cond.initialized RX8 ∈ xtb := xt_1 7 (by decide +kernel) rfl
theorem w_623 : Cond.methodLink RX11 41 yX8_init ∈ xtb := xt_1 142 (by decide +kernel) rfl
theorem w_624 : Cond.instanceMethod yX8_init ∈ xtb := xt_1 143 (by decide +kernel) rfl
theorem w_625 : Cond.fieldLink RX11 44 (TX11 4).1 (TX11 4).2.1 (TX11 4).2.2.1 ∈ xtb := xt_2 34 (by decide +kernel) rfl
theorem w_626 : Cond.classLink RX11 48 RX1 ∈ xtb := xt_1 165 (by decide +kernel) rfl
theorem w_627 : Cond.instantiable RX1 2 ∈ xtb := xt_1 166 (by decide +kernel) rfl
theorem w_628 : Cond.initialized RX1 ∈ xtb := xt_1 8 (by decide +kernel) rfl
theorem w_629 : Cond.methodLink RX11 50 yX1_init ∈ xtb := xt_1 167 (by decide +kernel) rfl
theorem w_630 : Cond.instanceMethod yX1_init ∈ xtb := xt_1 168 (by decide +kernel) rfl
theorem w_631 : Cond.fieldLink RX11 51 (TX11 5).1 (TX11 5).2.1 (TX11 5).2.2.1 ∈ xtb := xt_2 35 (by decide +kernel) rfl
theorem w_632 : Cond.classLink RX11 55 RX7 ∈ xtb := xt_1 178 (by decide +kernel) rfl
theorem w_633 : Cond.instantiable RX7 5 ∈ xtb := xt_1 179 (by decide +kernel) rfl
theorem w_634 : Cond.initialized RX7 ∈ xtb := xt_1 9 (by decide +kernel) rfl
theorem w_635 : Cond.methodLink RX11 57 yX7_init ∈ xtb := xt_1 180 (by decide +kernel) rfl
theorem w_636 : Cond.instanceMethod yX7_init ∈ xtb := xt_1 181 (by decide +kernel) rfl
theorem w_637 : Cond.fieldLink RX11 58 (TX11 6).1 (TX11 6).2.1 (TX11 6).2.2.1 ∈ xtb := xt_2 36 (by decide +kernel) rfl
theorem w_638 : Cond.classLink RX11 62 RX4 ∈ xtb := xt_1 200 (by decide +kernel) rfl
theorem w_639 : Cond.instantiable RX4 5 ∈ xtb := xt_1 201 (by decide +kernel) rfl
theorem w_640 : Cond.initialized RX4 ∈ xtb := xt_1 10 (by decide +kernel) rfl
theorem w_641 : Cond.methodLink RX11 64 yX4_init ∈ xtb := xt_1 202 (by decide +kernel) rfl
theorem w_642 : Cond.instanceMethod yX4_init ∈ xtb := xt_1 203 (by decide +kernel) rfl
theorem w_643 : Cond.fieldLink RX11 65 (TX11 7).1 (TX11 7).2.1 (TX11 7).2.2.1 ∈ xtb := xt_2 37 (by decide +kernel) rfl
theorem w_644 : Cond.classLink RX11 69 RX3 ∈ xtb := xt_1 222 (by decide +kernel) rfl
theorem w_645 : Cond.instantiable RX3 6 ∈ xtb := xt_1 223 (by decide +kernel) rfl
theorem w_646 : Cond.initialized RX3 ∈ xtb := xt_1 11 (by decide +kernel) rfl
theorem w_647 : Cond.instanceMethod yX3_init ∈ xtb := xt_1 225 (by decide +kernel) rfl
theorem w_648 : Cond.fieldLink RX11 72 (TX11 8).1 (TX11 8).2.1 (TX11 8).2.2.1 ∈ xtb := xt_2 38 (by decide +kernel) rfl
theorem w_649 : Cond.classLink RX11 76 RX9 ∈ xtb := xt_2 7 (by decide +kernel) rfl
theorem w_650 : Cond.fieldLink RX11 78 (TX11 9).1 (TX11 9).2.1 (TX11 9).2.2.1 ∈ xtb := xt_2 39 (by decide +kernel) rfl
theorem w_651 : Cond.instantiable RX9 5 ∈ xtb := xt_2 9 (by decide +kernel) rfl
theorem w_652 : Cond.initialized RX9 ∈ xtb := xt_1 12 (by decide +kernel) rfl
theorem w_653 : Cond.instanceMethod yX9_init ∈ xtb := xt_2 11 (by decide +kernel) rfl
theorem w_654 : Cond.methodLink RX11 83 yX5_addBill ∈ xtb := xt_2 65 (by decide +kernel) rfl
theorem w_655 : Cond.instanceMethod yX5_addBill ∈ xtb := xt_2 66 (by decide +kernel) rfl
theorem w_656 : Cond.selects yX5_addBill.cls yX5_addBill yX5_addBill ∈ xtb := xt_2 67 (by decide +kernel) rfl
theorem w_657 : Cond.methodLink RX11 87 yX11_isShelf ∈ xtb := xt_2 73 (by decide +kernel) rfl
theorem w_658 : Cond.instanceMethod yX11_isShelf ∈ xtb := xt_2 75 (by decide +kernel) rfl
theorem w_659 : Cond.selects yX11_isShelf.cls yX11_isShelf yX11_isShelf ∈ xtb := xtb_k 0 (by decide +kernel) rfl
theorem w_660 : Cond.methodLink RX11 91 yX9_isEmpty ∈ xtb := xt_2 77 (by decide +kernel) rfl
theorem w_661 : Cond.instanceMethod yX9_isEmpty ∈ xtb := xt_2 78 (by decide +kernel) rfl
theorem w_662 : Cond.selects yX9_isEmpty.cls yX9_isEmpty yX9_isEmpty ∈ xtb := xt_2 79 (by decide +kernel) rfl
theorem w_663 : Cond.methodLink RX11 95 yX9_refusalOfBytes ∈ xtb := xt_2 81 (by decide +kernel) rfl
theorem w_664 : Cond.instanceMethod yX9_refusalOfBytes ∈ xtb := xt_2 82 (by decide +kernel) rfl
theorem w_665 : Cond.selects yX9_refusalOfBytes.cls yX9_refusalOfBytes yX9_refusalOfBytes ∈ xtb := xt_2 83 (by decide +kernel) rfl
theorem w_666 : Cond.methodLink RX11 99 yX11_billComes ∈ xtb := xt_2 85 (by decide +kernel) rfl
theorem w_667 : Cond.instanceMethod yX11_billComes ∈ xtb := xt_2 87 (by decide +kernel) rfl
theorem w_668 : Cond.selects yX11_billComes.cls yX11_billComes yX11_billComes ∈ xtb := xtb_k 1 (by decide +kernel) rfl
theorem w_669 : Cond.methodLink RX11 103 yX5_may ∈ xtb := xt_2 101 (by decide +kernel) rfl
theorem w_670 : Cond.static yX5_may ∈ xtb := xt_2 102 (by decide +kernel) rfl
theorem w_671 : Cond.methodLink RX11 107 yX5_addSenator ∈ xtb := xt_2 112 (by decide +kernel) rfl
theorem w_672 : Cond.instanceMethod yX5_addSenator ∈ xtb := xt_2 113 (by decide +kernel) rfl
theorem w_673 : Cond.selects yX5_addSenator.cls yX5_addSenator yX5_addSenator ∈ xtb := xt_2 114 (by decide +kernel) rfl
theorem w_674 : Cond.methodLink RX11 111 yX5_has ∈ xtb := xt_2 120 (by decide +kernel) rfl
theorem w_675 : Cond.constant RX11 114 (-2000000000) ∈ xtb := xt_2 124 (by decide +kernel) rfl
theorem w_676 : Cond.methodLink RX11 115 yX5_get ∈ xtb := xt_2 125 (by decide +kernel) rfl
theorem w_677 : Cond.methodLink RX11 118 yX2_make ∈ xtb := xt_2 130 (by decide +kernel) rfl
theorem w_678 : Cond.instanceMethod yX2_make ∈ xtb := xt_2 131 (by decide +kernel) rfl
theorem w_679 : Cond.selects yX2_make.cls yX2_make yX2_make ∈ xtb := xt_2 132 (by decide +kernel) rfl
theorem w_680 : Cond.methodLink RX11 122 yX10_take ∈ xtb := xt_2 154 (by decide +kernel) rfl
theorem w_681 : Cond.instanceMethod yX10_take ∈ xtb := xt_2 155 (by decide +kernel) rfl
theorem w_682 : Cond.selects yX10_take.cls yX10_take yX10_take ∈ xtb := xt_2 156 (by decide +kernel) rfl
theorem w_683 : Cond.methodLink RX11 126 yX10_fault ∈ xtb := xt_2 162 (by decide +kernel) rfl
theorem w_684 : Cond.instanceMethod yX10_fault ∈ xtb := xt_2 163 (by decide +kernel) rfl
theorem w_685 : Cond.selects yX10_fault.cls yX10_fault yX10_fault ∈ xtb := xt_2 164 (by decide +kernel) rfl
theorem w_686 : Cond.methodLink RX11 129 yX5_follow ∈ xtb := xt_2 207 (by decide +kernel) rfl
theorem w_687 : Cond.instanceMethod yX5_follow ∈ xtb := xt_2 208 (by decide +kernel) rfl
theorem w_688 : Cond.selects yX5_follow.cls yX5_follow yX5_follow ∈ xtb := xt_2 209 (by decide +kernel) rfl
theorem w_689 : Cond.methodLink RX11 133 yX10_clear ∈ xtb := xt_2 226 (by decide +kernel) rfl
theorem w_690 : Cond.instanceMethod yX10_clear ∈ xtb := xt_2 227 (by decide +kernel) rfl
theorem w_691 : Cond.selects yX10_clear.cls yX10_clear yX10_clear ∈ xtb := xt_2 228 (by decide +kernel) rfl
theorem w_692 : Cond.methodLink RX11 136 yX5_isReading ∈ xtb := xt_2 234 (by decide +kernel) rfl
theorem w_693 : Cond.instanceMethod yX5_isReading ∈ xtb := xt_2 235 (by decide +kernel) rfl
theorem w_694 : Cond.selects yX5_isReading.cls yX5_isReading yX5_isReading ∈ xtb := xt_2 236 (by decide +kernel) rfl
theorem w_695 : Cond.methodLink RX11 139 yX5_cryingNow ∈ xtb := xt_2 238 (by decide +kernel) rfl
theorem w_696 : Cond.methodLink RX11 142 yX5_senatorCount ∈ xtb := xt_3 46 (by decide +kernel) rfl
theorem w_697 : Cond.instanceMethod yX5_senatorCount ∈ xtb := xt_3 47 (by decide +kernel) rfl
theorem w_698 : Cond.selects yX5_senatorCount.cls yX5_senatorCount yX5_senatorCount ∈ xtb := xt_3 48 (by decide +kernel) rfl
theorem w_699 : Cond.methodLink RX11 145 yX11_isPart ∈ xtb := xt_3 54 (by decide +kernel) rfl
theorem w_700 : Cond.static yX11_isPart ∈ xtb := xt_3 55 (by decide +kernel) rfl
theorem w_701 : Cond.methodLink RX11 148 yX11_takesAgenda ∈ xtb := xt_3 57 (by decide +kernel) rfl
theorem w_702 : Cond.instanceMethod yX11_takesAgenda ∈ xtb := xt_3 59 (by decide +kernel) rfl
theorem w_703 : Cond.selects yX11_takesAgenda.cls yX11_takesAgenda yX11_takesAgenda ∈ xtb := xtb_k 12 (by decide +kernel) rfl
theorem w_704 : Cond.methodLink RX11 151 yX0_size ∈ xtb := xt_3 70 (by decide +kernel) rfl
theorem w_705 : Cond.instanceMethod yX0_size ∈ xtb := xt_3 71 (by decide +kernel) rfl
theorem w_706 : Cond.selects yX0_size.cls yX0_size yX0_size ∈ xtb := xt_3 72 (by decide +kernel) rfl
theorem w_707 : Cond.constantLong RX11 154 (-9223372036854775808) ∈ xtb := xt_3 74 (by decide +kernel) rfl
theorem w_708 : Cond.methodLink RX11 156 yX0_passing ∈ xtb := xt_3 75 (by decide +kernel) rfl
theorem w_709 : Cond.instanceMethod yX0_passing ∈ xtb := xt_3 76 (by decide +kernel) rfl
theorem w_710 : Cond.selects yX0_passing.cls yX0_passing yX0_passing ∈ xtb := xt_3 77 (by decide +kernel) rfl
theorem w_711 : Cond.methodLink RX11 160 yX11_twelves ∈ xtb := xt_3 96 (by decide +kernel) rfl
theorem w_712 : Cond.static yX11_twelves ∈ xtb := xt_3 97 (by decide +kernel) rfl
theorem w_713 : Cond.methodLink RX11 163 yX11_partOf ∈ xtb := xt_3 100 (by decide +kernel) rfl
theorem w_714 : Cond.static yX11_partOf ∈ xtb := xt_3 101 (by decide +kernel) rfl
theorem w_715 : Cond.methodLink RX11 167 yX11_isCount ∈ xtb := xt_3 113 (by decide +kernel) rfl
theorem w_716 : Cond.static yX11_isCount ∈ xtb := xt_3 114 (by decide +kernel) rfl
theorem w_717 : Cond.methodLink RX11 170 yJ9_min_7cf53 ∈ xtb := xt_3 116 (by decide +kernel) rfl
theorem w_718 : Cond.methodLink RX11 175 yX0_quietFrom ∈ xtb := xt_3 117 (by decide +kernel) rfl
theorem w_719 : Cond.instanceMethod yX0_quietFrom ∈ xtb := xt_3 118 (by decide +kernel) rfl
theorem w_720 : Cond.selects yX0_quietFrom.cls yX0_quietFrom yX0_quietFrom ∈ xtb := xt_3 119 (by decide +kernel) rfl
theorem w_721 : Cond.methodLink RX11 179 yX0_worthOf ∈ xtb := xt_3 125 (by decide +kernel) rfl
theorem w_722 : Cond.methodLink RX11 182 yX8_mayBe ∈ xtb := xt_3 138 (by decide +kernel) rfl
theorem w_723 : Cond.instanceMethod yX8_mayBe ∈ xtb := xt_3 139 (by decide +kernel) rfl
theorem w_724 : Cond.selects yX8_mayBe.cls yX8_mayBe yX8_mayBe ∈ xtb := xt_3 140 (by decide +kernel) rfl
theorem w_725 : Cond.methodLink RX11 185 yX8_seek ∈ xtb := xt_3 153 (by decide +kernel) rfl
theorem w_726 : Cond.instanceMethod yX8_seek ∈ xtb := xt_3 154 (by decide +kernel) rfl
theorem w_727 : Cond.selects yX8_seek.cls yX8_seek yX8_seek ∈ xtb := xt_3 155 (by decide +kernel) rfl
theorem w_728 : Cond.methodLink RX11 189 yX8_bestAt ∈ xtb := xt_3 176 (by decide +kernel) rfl
theorem w_729 : Cond.instanceMethod yX8_bestAt ∈ xtb := xt_3 177 (by decide +kernel) rfl
theorem w_730 : Cond.selects yX8_bestAt.cls yX8_bestAt yX8_bestAt ∈ xtb := xt_3 178 (by decide +kernel) rfl
theorem w_731 : Cond.methodLink RX11 192 yX8_most ∈ xtb := xt_3 184 (by decide +kernel) rfl
theorem w_732 : Cond.instanceMethod yX8_most ∈ xtb := xt_3 185 (by decide +kernel) rfl
theorem w_733 : Cond.selects yX8_most.cls yX8_most yX8_most ∈ xtb := xt_3 186 (by decide +kernel) rfl
theorem w_734 : Cond.methodLink RX11 196 yJ6_bitCount_0f7a4 ∈ xtb := xt_3 188 (by decide +kernel) rfl
theorem w_735 : Cond.methodLink RX11 201 yX5_billCount ∈ xtb := xt_3 193 (by decide +kernel) rfl
theorem w_736 : Cond.methodLink RX11 204 yX5_sum ∈ xtb := xt_3 194 (by decide +kernel) rfl
theorem w_737 : Cond.instanceMethod yX5_sum ∈ xtb := xt_3 195 (by decide +kernel) rfl
theorem w_738 : Cond.selects yX5_sum.cls yX5_sum yX5_sum ∈ xtb := xt_3 196 (by decide +kernel) rfl
theorem w_739 : Cond.methodLink RX11 207 yX11_isBetterPack ∈ xtb := xt_3 198 (by decide +kernel) rfl
theorem w_740 : Cond.instanceMethod yX11_isBetterPack ∈ xtb := xt_3 200 (by decide +kernel) rfl
theorem w_741 : Cond.selects yX11_isBetterPack.cls yX11_isBetterPack yX11_isBetterPack ∈ xtb := xtb_k 18 (by decide +kernel) rfl
theorem w_742 : Cond.methodLink RX11 210 yX1_weigh ∈ xtb := xt_3 206 (by decide +kernel) rfl
theorem w_743 : Cond.instanceMethod yX1_weigh ∈ xtb := xt_3 207 (by decide +kernel) rfl
theorem w_744 : Cond.selects yX1_weigh.cls yX1_weigh yX1_weigh ∈ xtb := xt_3 208 (by decide +kernel) rfl
theorem w_745 : Cond.methodLink RX11 214 yX1_possible ∈ xtb := xt_3 219 (by decide +kernel) rfl
theorem w_746 : Cond.instanceMethod yX1_possible ∈ xtb := xt_3 220 (by decide +kernel) rfl
theorem w_747 : Cond.selects yX1_possible.cls yX1_possible yX1_possible ∈ xtb := xt_3 221 (by decide +kernel) rfl
theorem w_748 : Cond.methodLink RX11 217 yX1_likeliest ∈ xtb := xt_3 223 (by decide +kernel) rfl
theorem w_749 : Cond.methodLink RX11 220 yX1_most ∈ xtb := xt_3 231 (by decide +kernel) rfl
theorem w_750 : Cond.instanceMethod yX1_most ∈ xtb := xt_3 232 (by decide +kernel) rfl
theorem w_751 : Cond.selects yX1_most.cls yX1_most yX1_most ∈ xtb := xt_3 233 (by decide +kernel) rfl
theorem w_752 : Cond.methodLink RX11 221 yX1_together ∈ xtb := xt_3 236 (by decide +kernel) rfl
theorem w_753 : Cond.instanceMethod yX1_together ∈ xtb := xt_3 237 (by decide +kernel) rfl
theorem w_754 : Cond.selects yX1_together.cls yX1_together yX1_together ∈ xtb := xt_3 238 (by decide +kernel) rfl
theorem w_755 : Cond.methodLink RX11 224 yJ9_max_f86c9 ∈ xtb := xt_3 106 (by decide +kernel) rfl
theorem w_756 : Cond.static yJ9_max_f86c9 ∈ xtb := xt_3 107 (by decide +kernel) rfl
theorem w_757 : Cond.methodLink RX11 228 yX1_difference ∈ xtb := xt_4 4 (by decide +kernel) rfl
theorem w_758 : Cond.instanceMethod yX1_difference ∈ xtb := xt_4 5 (by decide +kernel) rfl
theorem w_759 : Cond.selects yX1_difference.cls yX1_difference yX1_difference ∈ xtb := xt_4 6 (by decide +kernel) rfl
theorem w_760 : Cond.methodLink RX11 231 yX5_isLeague ∈ xtb := xt_4 19 (by decide +kernel) rfl
theorem w_761 : Cond.instanceMethod yX5_isLeague ∈ xtb := xt_4 20 (by decide +kernel) rfl
theorem w_762 : Cond.selects yX5_isLeague.cls yX5_isLeague yX5_isLeague ∈ xtb := xt_4 21 (by decide +kernel) rfl
theorem w_763 : Cond.methodLink RX11 234 yX5_members ∈ xtb := xt_4 27 (by decide +kernel) rfl
theorem w_764 : Cond.methodLink RX11 237 yX7_play ∈ xtb := xt_4 32 (by decide +kernel) rfl
theorem w_765 : Cond.instanceMethod yX7_play ∈ xtb := xt_4 33 (by decide +kernel) rfl
theorem w_766 : Cond.selects yX7_play.cls yX7_play yX7_play ∈ xtb := xt_4 34 (by decide +kernel) rfl
theorem w_767 : Cond.methodLink RX11 240 yX7_outcome ∈ xtb := xt_4 49 (by decide +kernel) rfl
theorem w_768 : Cond.instanceMethod yX7_outcome ∈ xtb := xt_4 50 (by decide +kernel) rfl
theorem w_769 : Cond.selects yX7_outcome.cls yX7_outcome yX7_outcome ∈ xtb := xt_4 51 (by decide +kernel) rfl
theorem w_770 : Cond.methodLink RX11 243 yX7_firstMove ∈ xtb := xt_4 53 (by decide +kernel) rfl
theorem w_771 : Cond.instanceMethod yX7_firstMove ∈ xtb := xt_4 54 (by decide +kernel) rfl
theorem w_772 : Cond.selects yX7_firstMove.cls yX7_firstMove yX7_firstMove ∈ xtb := xt_4 55 (by decide +kernel) rfl
theorem w_773 : Cond.methodLink RX11 246 yX0_take ∈ xtb := xt_3 61 (by decide +kernel) rfl
theorem w_774 : Cond.instanceMethod yX0_take ∈ xtb := xt_3 62 (by decide +kernel) rfl
theorem w_775 : Cond.selects yX0_take.cls yX0_take yX0_take ∈ xtb := xt_3 63 (by decide +kernel) rfl
theorem w_776 : Cond.methodLink RX11 249 yX0_drawnYears ∈ xtb := xt_4 61 (by decide +kernel) rfl
theorem w_777 : Cond.instanceMethod yX0_drawnYears ∈ xtb := xt_4 62 (by decide +kernel) rfl
theorem w_778 : Cond.selects yX0_drawnYears.cls yX0_drawnYears yX0_drawnYears ∈ xtb := xt_4 63 (by decide +kernel) rfl
theorem w_779 : Cond.methodLink RX11 253 yX4_hear ∈ xtb := xt_4 80 (by decide +kernel) rfl
theorem w_780 : Cond.instanceMethod yX4_hear ∈ xtb := xt_4 81 (by decide +kernel) rfl
theorem w_781 : Cond.selects yX4_hear.cls yX4_hear yX4_hear ∈ xtb := xt_4 82 (by decide +kernel) rfl
theorem w_782 : Cond.methodLink RX11 256 yX4_nourish ∈ xtb := xt_4 95 (by decide +kernel) rfl
theorem w_783 : Cond.instanceMethod yX4_nourish ∈ xtb := xt_4 96 (by decide +kernel) rfl
theorem w_784 : Cond.selects yX4_nourish.cls yX4_nourish yX4_nourish ∈ xtb := xt_4 97 (by decide +kernel) rfl
theorem w_785 : Cond.methodLink RX11 259 yX4_bringIn ∈ xtb := xt_4 103 (by decide +kernel) rfl
theorem w_786 : Cond.instanceMethod yX4_bringIn ∈ xtb := xt_4 104 (by decide +kernel) rfl
theorem w_787 : Cond.selects yX4_bringIn.cls yX4_bringIn yX4_bringIn ∈ xtb := xt_4 105 (by decide +kernel) rfl
theorem w_788 : Cond.methodLink RX11 262 yX4_letPass ∈ xtb := xt_4 111 (by decide +kernel) rfl
theorem w_789 : Cond.instanceMethod yX4_letPass ∈ xtb := xt_4 112 (by decide +kernel) rfl
theorem w_790 : Cond.selects yX4_letPass.cls yX4_letPass yX4_letPass ∈ xtb := xt_4 113 (by decide +kernel) rfl
theorem w_791 : Cond.methodLink RX11 265 yX4_done ∈ xtb := xt_4 120 (by decide +kernel) rfl
theorem w_792 : Cond.instanceMethod yX4_done ∈ xtb := xt_4 121 (by decide +kernel) rfl
theorem w_793 : Cond.selects yX4_done.cls yX4_done yX4_done ∈ xtb := xt_4 122 (by decide +kernel) rfl
theorem w_794 : Cond.methodLink RX11 268 yX4_picture ∈ xtb := xt_4 128 (by decide +kernel) rfl
theorem w_795 : Cond.instanceMethod yX4_picture ∈ xtb := xt_4 129 (by decide +kernel) rfl
theorem w_796 : Cond.selects yX4_picture.cls yX4_picture yX4_picture ∈ xtb := xt_4 130 (by decide +kernel) rfl
theorem w_797 : Cond.methodLink RX11 271 yX4_layBack ∈ xtb := xt_4 137 (by decide +kernel) rfl
theorem w_798 : Cond.instanceMethod yX4_layBack ∈ xtb := xt_4 138 (by decide +kernel) rfl
theorem w_799 : Cond.selects yX4_layBack.cls yX4_layBack yX4_layBack ∈ xtb := xt_4 139 (by decide +kernel) rfl
theorem w_800 : Cond.methodLink RX11 274 yX2_goBack ∈ xtb := xt_4 145 (by decide +kernel) rfl
theorem w_801 : Cond.instanceMethod yX2_goBack ∈ xtb := xt_4 146 (by decide +kernel) rfl
theorem w_802 : Cond.selects yX2_goBack.cls yX2_goBack yX2_goBack ∈ xtb := xt_4 147 (by decide +kernel) rfl
theorem w_803 : Cond.methodLink RX11 277 yX2_behind ∈ xtb := xt_4 149 (by decide +kernel) rfl
theorem w_804 : Cond.instanceMethod yX2_behind ∈ xtb := xt_4 150 (by decide +kernel) rfl
theorem w_805 : Cond.selects yX2_behind.cls yX2_behind yX2_behind ∈ xtb := xt_4 151 (by decide +kernel) rfl
theorem w_806 : Cond.methodLink RX11 280 yX2_goOn ∈ xtb := xt_4 157 (by decide +kernel) rfl
theorem w_807 : Cond.instanceMethod yX2_goOn ∈ xtb := xt_4 158 (by decide +kernel) rfl
theorem w_808 : Cond.selects yX2_goOn.cls yX2_goOn yX2_goOn ∈ xtb := xt_4 159 (by decide +kernel) rfl
theorem w_809 : Cond.methodLink RX11 283 yX2_ahead ∈ xtb := xt_4 161 (by decide +kernel) rfl
theorem w_810 : Cond.instanceMethod yX2_ahead ∈ xtb := xt_4 162 (by decide +kernel) rfl
theorem w_811 : Cond.selects yX2_ahead.cls yX2_ahead yX2_ahead ∈ xtb := xt_4 163 (by decide +kernel) rfl
theorem w_812 : Cond.methodLink RX11 286 yX3_isKind ∈ xtb := xt_4 169 (by decide +kernel) rfl
theorem w_813 : Cond.methodLink RX11 289 yX3_add ∈ xtb := xt_4 172 (by decide +kernel) rfl
theorem w_814 : Cond.instanceMethod yX3_add ∈ xtb := xt_4 173 (by decide +kernel) rfl
theorem w_815 : Cond.selects yX3_add.cls yX3_add yX3_add ∈ xtb := xt_4 174 (by decide +kernel) rfl
theorem w_816 : Cond.methodLink RX11 292 yX3_perform ∈ xtb := xt_4 180 (by decide +kernel) rfl
theorem w_817 : Cond.instanceMethod yX3_perform ∈ xtb := xt_4 181 (by decide +kernel) rfl
theorem w_818 : Cond.selects yX3_perform.cls yX3_perform yX3_perform ∈ xtb := xt_4 182 (by decide +kernel) rfl
theorem w_819 : Cond.methodLink RX11 295 yX3_traceAt ∈ xtb := xt_4 208 (by decide +kernel) rfl
theorem w_820 : Cond.instanceMethod yX3_traceAt ∈ xtb := xt_4 209 (by decide +kernel) rfl
theorem w_821 : Cond.selects yX3_traceAt.cls yX3_traceAt yX3_traceAt ∈ xtb := xt_4 210 (by decide +kernel) rfl
theorem w_822 : Cond.methodLink RX11 298 yX3_has ∈ xtb := xt_4 216 (by decide +kernel) rfl
theorem w_823 : Cond.methodLink RX11 300 yX9_clear ∈ xtb := xt_4 217 (by decide +kernel) rfl
theorem w_824 : Cond.instanceMethod yX9_clear ∈ xtb := xt_4 218 (by decide +kernel) rfl
theorem w_825 : Cond.selects yX9_clear.cls yX9_clear yX9_clear ∈ xtb := xt_4 219 (by decide +kernel) rfl
theorem w_826 : Cond.methodLink RX11 301 yX9_holdBody ∈ xtb := xt_4 221 (by decide +kernel) rfl
theorem w_827 : Cond.instanceMethod yX9_holdBody ∈ xtb := xt_4 222 (by decide +kernel) rfl
theorem w_828 : Cond.selects yX9_holdBody.cls yX9_holdBody yX9_holdBody ∈ xtb := xt_4 223 (by decide +kernel) rfl
theorem w_829 : Cond.methodLink RX11 305 yX9_holdRow ∈ xtb := xt_4 229 (by decide +kernel) rfl
theorem w_830 : Cond.instanceMethod yX9_holdRow ∈ xtb := xt_4 230 (by decide +kernel) rfl
theorem w_831 : Cond.selects yX9_holdRow.cls yX9_holdRow yX9_holdRow ∈ xtb := xt_4 231 (by decide +kernel) rfl
theorem w_832 : Cond.methodLink RX11 308 yX11_refusalOfPlace ∈ xtb := xt_5 0 (by decide +kernel) rfl
theorem w_833 : Cond.instanceMethod yX11_refusalOfPlace ∈ xtb := xt_5 2 (by decide +kernel) rfl
theorem w_834 : Cond.selects yX11_refusalOfPlace.cls yX11_refusalOfPlace yX11_refusalOfPlace ∈ xtb := xtb_k 25 (by decide +kernel) rfl
theorem w_835 : Cond.methodLink RX11 311 yX9_set ∈ xtb := xt_5 6 (by decide +kernel) rfl
theorem w_836 : Cond.instanceMethod yX9_set ∈ xtb := xt_5 7 (by decide +kernel) rfl
theorem w_837 : Cond.selects yX9_set.cls yX9_set yX9_set ∈ xtb := xt_5 8 (by decide +kernel) rfl
theorem w_838 : Cond.methodLink RX11 315 yX9_get ∈ xtb := xt_5 18 (by decide +kernel) rfl
theorem w_839 : Cond.instanceMethod yX9_get ∈ xtb := xt_5 19 (by decide +kernel) rfl
theorem w_840 : Cond.selects yX9_get.cls yX9_get yX9_get ∈ xtb := xt_5 20 (by decide +kernel) rfl
theorem w_841 : Cond.methodLink RX11 317 yX9_isLike ∈ xtb := xt_5 27 (by decide +kernel) rfl
theorem w_842 : Cond.instanceMethod yX9_isLike ∈ xtb := xt_5 28 (by decide +kernel) rfl
theorem w_843 : Cond.selects yX9_isLike.cls yX9_isLike yX9_isLike ∈ xtb := xt_5 29 (by decide +kernel) rfl
theorem w_844 : Cond.methodLink RX11 321 yX9_hasPlaces ∈ xtb := xt_5 5 (by decide +kernel) rfl
theorem w_845 : Cond.methodLink RX11 324 yX9_copy ∈ xtb := xt_5 31 (by decide +kernel) rfl
theorem w_846 : Cond.instanceMethod yX9_copy ∈ xtb := xt_5 32 (by decide +kernel) rfl
theorem w_847 : Cond.selects yX9_copy.cls yX9_copy yX9_copy ∈ xtb := xt_5 33 (by decide +kernel) rfl
theorem w_848 : Cond.methodLink RX11 328 yX9_heldBody ∈ xtb := xt_5 40 (by decide +kernel) rfl
theorem w_849 : Cond.instanceMethod yX9_heldBody ∈ xtb := xt_5 41 (by decide +kernel) rfl
theorem w_850 : Cond.selects yX9_heldBody.cls yX9_heldBody yX9_heldBody ∈ xtb := xt_5 42 (by decide +kernel) rfl
theorem w_851 : Cond.methodLink RX11 331 yX3_kindOf ∈ xtb := xt_5 44 (by decide +kernel) rfl
theorem w_852 : Cond.instanceMethod yX3_kindOf ∈ xtb := xt_5 45 (by decide +kernel) rfl
theorem w_853 : Cond.selects yX3_kindOf.cls yX3_kindOf yX3_kindOf ∈ xtb := xt_5 46 (by decide +kernel) rfl
theorem w_854 : Cond.methodLink RX11 334 yX3_isUnder ∈ xtb := xt_5 48 (by decide +kernel) rfl
theorem w_855 : Cond.static yX3_isUnder ∈ xtb := xt_5 49 (by decide +kernel) rfl
theorem w_856 : Cond.methodLink RX11 337 yX10_length ∈ xtb := xt_5 55 (by decide +kernel) rfl
theorem w_857 : Cond.instanceMethod yX10_length ∈ xtb := xt_5 56 (by decide +kernel) rfl
theorem w_858 : Cond.selects yX10_length.cls yX10_length yX10_length ∈ xtb := xt_5 57 (by decide +kernel) rfl
theorem w_859 : Cond.methodLink RX11 340 yX3_size ∈ xtb := xt_5 59 (by decide +kernel) rfl
theorem w_860 : Cond.instanceMethod yX3_size ∈ xtb := xt_5 60 (by decide +kernel) rfl
theorem w_861 : Cond.selects yX3_size.cls yX3_size yX3_size ∈ xtb := xt_5 61 (by decide +kernel) rfl
theorem w_862 : Cond.methodLink RX11 341 yX3_ran ∈ xtb := xt_5 63 (by decide +kernel) rfl
theorem w_863 : Cond.instanceMethod yX3_ran ∈ xtb := xt_5 64 (by decide +kernel) rfl
theorem w_864 : Cond.selects yX3_ran.cls yX3_ran yX3_ran ∈ xtb := xt_5 65 (by decide +kernel) rfl
theorem w_865 : Cond.methodLink RX11 344 yX9_isRow ∈ xtb := xt_5 4 (by decide +kernel) rfl
theorem w_866 : Cond.methodLink RX11 347 yX9_byteAt ∈ xtb := xt_2 89 (by decide +kernel) rfl
theorem w_867 : Cond.constantLong RX11 350 (12) ∈ xtb := xt_3 99 (by decide +kernel) rfl
theorem w_868 : Cond.methodLink RX11 352 yX11_commonOf ∈ xtb := xt_3 103 (by decide +kernel) rfl
theorem w_869 : Cond.static yX11_commonOf ∈ xtb := xt_3 104 (by decide +kernel) rfl
theorem w_870 : Cond.methodLink RX12 3 Lib.objectInit ∈ xtb := xt_5 72 (by decide +kernel) rfl
theorem w_871 : Cond.fieldLink RX12 9 (TX12 2).1 (TX12 2).2.1 (TX12 2).2.2.1 ∈ xtb := xt_5 74 (by decide +kernel) rfl
theorem w_872 : Cond.fieldLink RX12 15 (TX12 3).1 (TX12 3).2.1 (TX12 3).2.2.1 ∈ xtb := xt_5 75 (by decide +kernel) rfl
theorem w_873 : Cond.fieldLink RX12 18 (TX12 4).1 (TX12 4).2.1 (TX12 4).2.2.1 ∈ xtb := xt_5 76 (by decide +kernel) rfl
theorem w_874 : Cond.fieldLink RX12 21 (TX12 5).1 (TX12 5).2.1 (TX12 5).2.2.1 ∈ xtb := xt_5 77 (by decide +kernel) rfl
theorem w_875 : Cond.fieldLink RX12 24 (TX12 7).1 (TX12 7).2.1 (TX12 7).2.2.1 ∈ xtb := xt_5 79 (by decide +kernel) rfl
theorem w_876 : Cond.fieldLink RX12 27 (TX12 8).1 (TX12 8).2.1 (TX12 8).2.2.1 ∈ xtb := xt_5 80 (by decide +kernel) rfl
theorem w_877 : Cond.fieldLink RX12 30 (TX12 9).1 (TX12 9).2.1 (TX12 9).2.2.1 ∈ xtb := xt_5 81 (by decide +kernel) rfl
theorem w_878 : Cond.fieldLink RX12 33 (TX12 12).1 (TX12 12).2.1 (TX12 12).2.2.1 ∈ xtb := xt_5 84 (by decide +kernel) rfl
theorem w_879 : Cond.fieldLink RX12 36 (TX12 13).1 (TX12 13).2.1 (TX12 13).2.2.1 ∈ xtb := xt_5 85 (by decide +kernel) rfl
theorem w_880 : Cond.fieldLink RX12 39 (TX12 14).1 (TX12 14).2.1 (TX12 14).2.2.1 ∈ xtb := xt_5 86 (by decide +kernel) rfl
theorem w_881 : Cond.fieldLink RX12 42 (TX12 15).1 (TX12 15).2.1 (TX12 15).2.2.1 ∈ xtb := xt_5 87 (by decide +kernel) rfl
theorem w_882 : Cond.arrayClass .byte ∈ xtb := xt_5 232 (by decide +kernel) rfl
theorem w_883 : Cond.fieldLink RX12 45 (TX12 16).1 (TX12 16).2.1 (TX12 16).2.2.1 ∈ xtb := xt_5 88 (by decide +kernel) rfl
theorem w_884 : Cond.fieldLink RX12 49 (TX12 22).1 (TX12 22).2.1 (TX12 22).2.2.1 ∈ xtb := xt_5 94 (by decide +kernel) rfl
theorem w_885 : Cond.fieldLink RX12 52 (TX12 23).1 (TX12 23).2.1 (TX12 23).2.2.1 ∈ xtb := xt_5 95 (by decide +kernel) rfl
theorem w_886 : Cond.fieldLink RX12 55 (TX12 24).1 (TX12 24).2.1 (TX12 24).2.2.1 ∈ xtb := xt_5 96 (by decide +kernel) rfl
theorem w_887 : Cond.arrayClass .short ∈ xtb := xt_5 233 (by decide +kernel) rfl
theorem w_888 : Cond.fieldLink RX12 58 (TX12 25).1 (TX12 25).2.1 (TX12 25).2.2.1 ∈ xtb := xt_5 97 (by decide +kernel) rfl
theorem w_889 : Cond.fieldLink RX12 62 (TX12 26).1 (TX12 26).2.1 (TX12 26).2.2.1 ∈ xtb := xt_5 98 (by decide +kernel) rfl
theorem w_890 : Cond.fieldLink RX12 65 (TX12 27).1 (TX12 27).2.1 (TX12 27).2.2.1 ∈ xtb := xt_5 99 (by decide +kernel) rfl
theorem w_891 : Cond.fieldLink RX12 68 (TX12 28).1 (TX12 28).2.1 (TX12 28).2.2.1 ∈ xtb := xt_5 100 (by decide +kernel) rfl
theorem w_892 : Cond.fieldLink RX12 71 (TX12 30).1 (TX12 30).2.1 (TX12 30).2.2.1 ∈ xtb := xt_5 102 (by decide +kernel) rfl
theorem w_893 : Cond.fieldLink RX12 74 (TX12 32).1 (TX12 32).2.1 (TX12 32).2.2.1 ∈ xtb := xt_5 104 (by decide +kernel) rfl
theorem w_894 : Cond.fieldLink RX12 78 (TX12 33).1 (TX12 33).2.1 (TX12 33).2.2.1 ∈ xtb := xt_5 105 (by decide +kernel) rfl
theorem w_895 : Cond.fieldLink RX12 81 (TX12 37).1 (TX12 37).2.1 (TX12 37).2.2.1 ∈ xtb := xt_5 109 (by decide +kernel) rfl
theorem w_896 : Cond.fieldLink RX12 84 (TX12 40).1 (TX12 40).2.1 (TX12 40).2.2.1 ∈ xtb := xt_5 112 (by decide +kernel) rfl
theorem w_897 : Cond.fieldLink RX12 87 (TX12 41).1 (TX12 41).2.1 (TX12 41).2.2.1 ∈ xtb := xt_5 113 (by decide +kernel) rfl
theorem w_898 : Cond.fieldLink RX12 90 (TX12 43).1 (TX12 43).2.1 (TX12 43).2.2.1 ∈ xtb := xt_5 115 (by decide +kernel) rfl
theorem w_899 : Cond.fieldLink RX12 93 (TX12 44).1 (TX12 44).2.1 (TX12 44).2.2.1 ∈ xtb := xt_5 116 (by decide +kernel) rfl
theorem w_900 : Cond.fieldLink RX12 96 (TX12 46).1 (TX12 46).2.1 (TX12 46).2.2.1 ∈ xtb := xt_5 118 (by decide +kernel) rfl
theorem w_901 : Cond.fieldLink RX12 99 (TX12 48).1 (TX12 48).2.1 (TX12 48).2.2.1 ∈ xtb := xt_5 120 (by decide +kernel) rfl
theorem w_902 : Cond.fieldLink RX12 102 (TX12 49).1 (TX12 49).2.1 (TX12 49).2.2.1 ∈ xtb := xt_5 121 (by decide +kernel) rfl
theorem w_903 : Cond.fieldLink RX12 105 (TX12 50).1 (TX12 50).2.1 (TX12 50).2.2.1 ∈ xtb := xt_5 122 (by decide +kernel) rfl
theorem w_904 : Cond.fieldLink RX12 108 (TX12 51).1 (TX12 51).2.1 (TX12 51).2.2.1 ∈ xtb := xt_5 123 (by decide +kernel) rfl
theorem w_905 : Cond.fieldLink RX12 111 (TX12 52).1 (TX12 52).2.1 (TX12 52).2.2.1 ∈ xtb := xt_5 124 (by decide +kernel) rfl
theorem w_906 : Cond.fieldLink RX12 118 (TX12 1).1 (TX12 1).2.1 (TX12 1).2.2.1 ∈ xtb := xt_5 73 (by decide +kernel) rfl
theorem w_907 : Cond.methodLink RX12 121 yX12_in ∈ xtb := xt_5 238 (by decide +kernel) rfl
theorem w_908 : Cond.static yX12_in ∈ xtb := xt_5 239 (by decide +kernel) rfl
theorem w_909 : Cond.fieldLink RX12 125 (TX12 6).1 (TX12 6).2.1 (TX12 6).2.2.1 ∈ xtb := xt_5 78 (by decide +kernel) rfl
theorem w_910 : Cond.methodLink RX12 128 yX12_isBill ∈ xtb := xt_6 37 (by decide +kernel) rfl
theorem w_911 : Cond.instanceMethod yX12_isBill ∈ xtb := xt_6 39 (by decide +kernel) rfl
theorem w_912 : Cond.selects yX12_isBill.cls yX12_isBill yX12_isBill ∈ xtb := xtb_k 30 (by decide +kernel) rfl
theorem w_913 : Cond.methodLink RX12 132 yX12_isSenator ∈ xtb := xt_6 41 (by decide +kernel) rfl
theorem w_914 : Cond.instanceMethod yX12_isSenator ∈ xtb := xt_6 43 (by decide +kernel) rfl
theorem w_915 : Cond.selects yX12_isSenator.cls yX12_isSenator yX12_isSenator ∈ xtb := xtb_k 31 (by decide +kernel) rfl
theorem w_916 : Cond.methodLink RX12 135 yX12_addBill ∈ xtb := xt_6 1 (by decide +kernel) rfl
theorem w_917 : Cond.instanceMethod yX12_addBill ∈ xtb := xt_6 3 (by decide +kernel) rfl
theorem w_918 : Cond.selects yX12_addBill.cls yX12_addBill yX12_addBill ∈ xtb := xtb_k 27 (by decide +kernel) rfl
theorem w_919 : Cond.methodLink RX12 139 yX12_isShelf ∈ xtb := xt_6 9 (by decide +kernel) rfl
theorem w_920 : Cond.static yX12_isShelf ∈ xtb := xt_6 10 (by decide +kernel) rfl
theorem w_921 : Cond.constantLong RX12 142 (2) ∈ xtb := xt_6 12 (by decide +kernel) rfl
theorem w_922 : Cond.methodLink RX12 144 yX12_valueAt ∈ xtb := xt_6 52 (by decide +kernel) rfl
theorem w_923 : Cond.instanceMethod yX12_valueAt ∈ xtb := xt_6 54 (by decide +kernel) rfl
theorem w_924 : Cond.selects yX12_valueAt.cls yX12_valueAt yX12_valueAt ∈ xtb := xtb_k 33 (by decide +kernel) rfl
theorem w_925 : Cond.fieldLink RX12 148 (TX12 11).1 (TX12 11).2.1 (TX12 11).2.2.1 ∈ xtb := xt_5 83 (by decide +kernel) rfl
theorem w_926 : Cond.fieldLink RX12 151 (TX12 10).1 (TX12 10).2.1 (TX12 10).2.2.1 ∈ xtb := xt_5 82 (by decide +kernel) rfl
theorem w_927 : Cond.methodLink RX12 154 yX12_lays ∈ xtb := xt_6 21 (by decide +kernel) rfl
theorem w_928 : Cond.instanceMethod yX12_lays ∈ xtb := xt_6 23 (by decide +kernel) rfl
theorem w_929 : Cond.selects yX12_lays.cls yX12_lays yX12_lays ∈ xtb := xtb_k 28 (by decide +kernel) rfl
theorem w_930 : Cond.methodLink RX12 158 yX12_isPlace ∈ xtb := xt_6 33 (by decide +kernel) rfl
theorem w_931 : Cond.instanceMethod yX12_isPlace ∈ xtb := xt_6 35 (by decide +kernel) rfl
theorem w_932 : Cond.selects yX12_isPlace.cls yX12_isPlace yX12_isPlace ∈ xtb := xtb_k 29 (by decide +kernel) rfl
theorem w_933 : Cond.methodLink RX12 162 yX12_mayHave ∈ xtb := xt_6 45 (by decide +kernel) rfl
theorem w_934 : Cond.static yX12_mayHave ∈ xtb := xt_6 46 (by decide +kernel) rfl
theorem w_935 : Cond.methodLink RX12 165 yX12_changes ∈ xtb := xt_6 48 (by decide +kernel) rfl
theorem w_936 : Cond.instanceMethod yX12_changes ∈ xtb := xt_6 50 (by decide +kernel) rfl
theorem w_937 : Cond.selects yX12_changes.cls yX12_changes yX12_changes ∈ xtb := xtb_k 32 (by decide +kernel) rfl
theorem w_938 : Cond.constant RX12 168 (-2000000000) ∈ xtb := xt_6 56 (by decide +kernel) rfl
theorem w_939 : Cond.fieldLink RX12 169 (TX12 17).1 (TX12 17).2.1 (TX12 17).2.2.1 ∈ xtb := xt_5 89 (by decide +kernel) rfl
theorem w_940 : Cond.fieldLink RX12 172 (TX12 18).1 (TX12 18).2.1 (TX12 18).2.2.1 ∈ xtb := xt_5 90 (by decide +kernel) rfl
theorem w_941 : Cond.fieldLink RX12 175 (TX12 19).1 (TX12 19).2.1 (TX12 19).2.2.1 ∈ xtb := xt_5 91 (by decide +kernel) rfl
theorem w_942 : Cond.fieldLink RX12 178 (TX12 21).1 (TX12 21).2.1 (TX12 21).2.2.1 ∈ xtb := xt_5 93 (by decide +kernel) rfl
theorem w_943 : Cond.fieldLink RX12 181 (TX12 20).1 (TX12 20).2.1 (TX12 20).2.2.1 ∈ xtb := xt_5 92 (by decide +kernel) rfl
theorem w_944 : Cond.methodLink RX12 184 yX12_wrong ∈ xtb := xt_6 116 (by decide +kernel) rfl
theorem w_945 : Cond.instanceMethod yX12_wrong ∈ xtb := xt_6 118 (by decide +kernel) rfl
theorem w_946 : Cond.selects yX12_wrong.cls yX12_wrong yX12_wrong ∈ xtb := xtb_k 45 (by decide +kernel) rfl
theorem w_947 : Cond.methodLink RX12 187 yX12_look ∈ xtb := xt_6 101 (by decide +kernel) rfl
theorem w_948 : Cond.instanceMethod yX12_look ∈ xtb := xt_6 103 (by decide +kernel) rfl
theorem w_949 : Cond.selects yX12_look.cls yX12_look yX12_look ∈ xtb := xtb_k 42 (by decide +kernel) rfl
theorem w_950 : Cond.methodLink RX12 191 yX12_addStep ∈ xtb := xt_6 108 (by decide +kernel) rfl
theorem w_951 : Cond.instanceMethod yX12_addStep ∈ xtb := xt_6 110 (by decide +kernel) rfl
theorem w_952 : Cond.selects yX12_addStep.cls yX12_addStep yX12_addStep ∈ xtb := xtb_k 43 (by decide +kernel) rfl
theorem w_953 : Cond.methodLink RX12 195 yX12_nameOf ∈ xtb := xt_6 105 (by decide +kernel) rfl
theorem w_954 : Cond.static yX12_nameOf ∈ xtb := xt_6 106 (by decide +kernel) rfl
theorem w_955 : Cond.methodLink RX12 199 yX12_opens ∈ xtb := xt_6 112 (by decide +kernel) rfl
theorem w_956 : Cond.instanceMethod yX12_opens ∈ xtb := xt_6 114 (by decide +kernel) rfl
theorem w_957 : Cond.selects yX12_opens.cls yX12_opens yX12_opens ∈ xtb := xtb_k 44 (by decide +kernel) rfl
theorem w_958 : Cond.methodLink RX12 203 yX12_operand ∈ xtb := xt_6 97 (by decide +kernel) rfl
theorem w_959 : Cond.instanceMethod yX12_operand ∈ xtb := xt_6 99 (by decide +kernel) rfl
theorem w_960 : Cond.selects yX12_operand.cls yX12_operand yX12_operand ∈ xtb := xtb_k 41 (by decide +kernel) rfl
theorem w_961 : Cond.methodLink RX12 206 yX12_either ∈ xtb := xt_6 77 (by decide +kernel) rfl
theorem w_962 : Cond.instanceMethod yX12_either ∈ xtb := xt_6 79 (by decide +kernel) rfl
theorem w_963 : Cond.selects yX12_either.cls yX12_either yX12_either ∈ xtb := xtb_k 36 (by decide +kernel) rfl
theorem w_964 : Cond.methodLink RX12 209 yX12_figure ∈ xtb := xt_6 120 (by decide +kernel) rfl
theorem w_965 : Cond.instanceMethod yX12_figure ∈ xtb := xt_6 122 (by decide +kernel) rfl
theorem w_966 : Cond.selects yX12_figure.cls yX12_figure yX12_figure ∈ xtb := xtb_k 46 (by decide +kernel) rfl
theorem w_967 : Cond.methodLink RX12 212 yX12_product ∈ xtb := xt_6 93 (by decide +kernel) rfl
theorem w_968 : Cond.instanceMethod yX12_product ∈ xtb := xt_6 95 (by decide +kernel) rfl
theorem w_969 : Cond.selects yX12_product.cls yX12_product yX12_product ∈ xtb := xtb_k 40 (by decide +kernel) rfl
theorem w_970 : Cond.methodLink RX12 215 yX12_sum ∈ xtb := xt_6 89 (by decide +kernel) rfl
theorem w_971 : Cond.instanceMethod yX12_sum ∈ xtb := xt_6 91 (by decide +kernel) rfl
theorem w_972 : Cond.selects yX12_sum.cls yX12_sum yX12_sum ∈ xtb := xtb_k 39 (by decide +kernel) rfl
theorem w_973 : Cond.methodLink RX12 218 yX12_compared ∈ xtb := xt_6 85 (by decide +kernel) rfl
theorem w_974 : Cond.instanceMethod yX12_compared ∈ xtb := xt_6 87 (by decide +kernel) rfl
theorem w_975 : Cond.selects yX12_compared.cls yX12_compared yX12_compared ∈ xtb := xtb_k 38 (by decide +kernel) rfl
theorem w_976 : Cond.methodLink RX12 221 yX12_both ∈ xtb := xt_6 81 (by decide +kernel) rfl
theorem w_977 : Cond.instanceMethod yX12_both ∈ xtb := xt_6 83 (by decide +kernel) rfl
theorem w_978 : Cond.selects yX12_both.cls yX12_both yX12_both ∈ xtb := xtb_k 37 (by decide +kernel) rfl
theorem w_979 : Cond.methodLink RX12 224 yX12_line ∈ xtb := xt_6 73 (by decide +kernel) rfl
theorem w_980 : Cond.instanceMethod yX12_line ∈ xtb := xt_6 75 (by decide +kernel) rfl
theorem w_981 : Cond.selects yX12_line.cls yX12_line yX12_line ∈ xtb := xtb_k 35 (by decide +kernel) rfl
theorem w_982 : Cond.methodLink RX12 227 yX12_twoOf ∈ xtb := xt_6 152 (by decide +kernel) rfl
theorem w_983 : Cond.static yX12_twoOf ∈ xtb := xt_6 153 (by decide +kernel) rfl
theorem w_984 : Cond.methodLink RX12 230 yX12_worked ∈ xtb := xt_6 148 (by decide +kernel) rfl
theorem w_985 : Cond.instanceMethod yX12_worked ∈ xtb := xt_6 150 (by decide +kernel) rfl
theorem w_986 : Cond.selects yX12_worked.cls yX12_worked yX12_worked ∈ xtb := xtb_k 52 (by decide +kernel) rfl
theorem w_987 : Cond.methodLink RX12 233 yX12_readText ∈ xtb := xt_6 69 (by decide +kernel) rfl
theorem w_988 : Cond.instanceMethod yX12_readText ∈ xtb := xt_6 71 (by decide +kernel) rfl
theorem w_989 : Cond.selects yX12_readText.cls yX12_readText yX12_readText ∈ xtb := xtb_k 34 (by decide +kernel) rfl
theorem w_990 : Cond.fieldLink RX12 236 (TX12 29).1 (TX12 29).2.1 (TX12 29).2.2.1 ∈ xtb := xt_5 101 (by decide +kernel) rfl
theorem w_991 : Cond.methodLink RX12 240 yX12_gives ∈ xtb := xt_6 144 (by decide +kernel) rfl
theorem w_992 : Cond.instanceMethod yX12_gives ∈ xtb := xt_6 146 (by decide +kernel) rfl
theorem w_993 : Cond.selects yX12_gives.cls yX12_gives yX12_gives ∈ xtb := xtb_k 51 (by decide +kernel) rfl
theorem w_994 : Cond.methodLink RX12 243 yX12_sinceWith ∈ xtb := xt_6 136 (by decide +kernel) rfl
theorem w_995 : Cond.instanceMethod yX12_sinceWith ∈ xtb := xt_6 138 (by decide +kernel) rfl
theorem w_996 : Cond.selects yX12_sinceWith.cls yX12_sinceWith yX12_sinceWith ∈ xtb := xtb_k 49 (by decide +kernel) rfl
theorem w_997 : Cond.methodLink RX12 246 yX12_criesBy ∈ xtb := xt_6 140 (by decide +kernel) rfl
theorem w_998 : Cond.instanceMethod yX12_criesBy ∈ xtb := xt_6 142 (by decide +kernel) rfl
theorem w_999 : Cond.selects yX12_criesBy.cls yX12_criesBy yX12_criesBy ∈ xtb := xtb_k 50 (by decide +kernel) rfl
theorem w_1000 : Cond.methodLink RX12 250 yX12_areTwo ∈ xtb := xt_6 128 (by decide +kernel) rfl
theorem w_1001 : Cond.instanceMethod yX12_areTwo ∈ xtb := xt_6 130 (by decide +kernel) rfl
theorem w_1002 : Cond.selects yX12_areTwo.cls yX12_areTwo yX12_areTwo ∈ xtb := xtb_k 47 (by decide +kernel) rfl
theorem w_1003 : Cond.methodLink RX12 253 yX12_nextBy ∈ xtb := xt_6 132 (by decide +kernel) rfl
theorem w_1004 : Cond.instanceMethod yX12_nextBy ∈ xtb := xt_6 134 (by decide +kernel) rfl
theorem w_1005 : Cond.selects yX12_nextBy.cls yX12_nextBy yX12_nextBy ∈ xtb := xtb_k 48 (by decide +kernel) rfl
theorem w_1006 : Cond.fieldLink RX12 256 (TX12 31).1 (TX12 31).2.1 (TX12 31).2.2.1 ∈ xtb := xt_5 103 (by decide +kernel) rfl
theorem w_1007 : Cond.methodLink RX12 259 yX12_at ∈ xtb := xt_6 176 (by decide +kernel) rfl
theorem w_1008 : Cond.instanceMethod yX12_at ∈ xtb := xt_6 178 (by decide +kernel) rfl
theorem w_1009 : Cond.selects yX12_at.cls yX12_at yX12_at ∈ xtb := xtb_k 56 (by decide +kernel) rfl
theorem w_1010 : Cond.fieldLink RX12 262 (TX12 34).1 (TX12 34).2.1 (TX12 34).2.2.1 ∈ xtb := xt_5 106 (by decide +kernel) rfl
theorem w_1011 : Cond.fieldLink RX12 266 (TX12 35).1 (TX12 35).2.1 (TX12 35).2.2.1 ∈ xtb := xt_5 107 (by decide +kernel) rfl
theorem w_1012 : Cond.constantLong RX12 269 (12) ∈ xtb := xt_6 188 (by decide +kernel) rfl
theorem w_1013 : Cond.methodLink RX12 271 yX12_rowFault ∈ xtb := xt_6 167 (by decide +kernel) rfl
theorem w_1014 : Cond.instanceMethod yX12_rowFault ∈ xtb := xt_6 169 (by decide +kernel) rfl
theorem w_1015 : Cond.selects yX12_rowFault.cls yX12_rowFault yX12_rowFault ∈ xtb := xtb_k 54 (by decide +kernel) rfl
theorem w_1016 : Cond.methodLink RX12 274 yX12_mayAsk ∈ xtb := xt_6 163 (by decide +kernel) rfl
theorem w_1017 : Cond.instanceMethod yX12_mayAsk ∈ xtb := xt_6 165 (by decide +kernel) rfl
theorem w_1018 : Cond.selects yX12_mayAsk.cls yX12_mayAsk yX12_mayAsk ∈ xtb := xtb_k 53 (by decide +kernel) rfl
theorem w_1019 : Cond.constantLong RX12 277 (-9223372036854775808) ∈ xtb := xt_6 171 (by decide +kernel) rfl
theorem w_1020 : Cond.methodLink RX12 279 yX12_layAgenda ∈ xtb := xt_6 172 (by decide +kernel) rfl
theorem w_1021 : Cond.instanceMethod yX12_layAgenda ∈ xtb := xt_6 174 (by decide +kernel) rfl
theorem w_1022 : Cond.selects yX12_layAgenda.cls yX12_layAgenda yX12_layAgenda ∈ xtb := xtb_k 55 (by decide +kernel) rfl
theorem w_1023 : Cond.methodLink RX12 283 yX12_layWeights ∈ xtb := xt_6 180 (by decide +kernel) rfl
theorem w_1024 : Cond.instanceMethod yX12_layWeights ∈ xtb := xt_6 182 (by decide +kernel) rfl
theorem w_1025 : Cond.selects yX12_layWeights.cls yX12_layWeights yX12_layWeights ∈ xtb := xtb_k 57 (by decide +kernel) rfl
theorem w_1026 : Cond.methodLink RX12 286 yX12_goReading ∈ xtb := xt_6 184 (by decide +kernel) rfl
theorem w_1027 : Cond.instanceMethod yX12_goReading ∈ xtb := xt_6 186 (by decide +kernel) rfl
theorem w_1028 : Cond.selects yX12_goReading.cls yX12_goReading yX12_goReading ∈ xtb := xtb_k 58 (by decide +kernel) rfl
theorem w_1029 : Cond.methodLink RX12 290 yX12_lowest ∈ xtb := xt_6 189 (by decide +kernel) rfl
theorem w_1030 : Cond.static yX12_lowest ∈ xtb := xt_6 190 (by decide +kernel) rfl
theorem w_1031 : Cond.methodLink RX12 294 yX12_firstOf ∈ xtb := xt_6 196 (by decide +kernel) rfl
theorem w_1032 : Cond.instanceMethod yX12_firstOf ∈ xtb := xt_6 198 (by decide +kernel) rfl
theorem w_1033 : Cond.selects yX12_firstOf.cls yX12_firstOf yX12_firstOf ∈ xtb := xtb_k 59 (by decide +kernel) rfl
theorem w_1034 : Cond.methodLink RX12 297 yX12_allWeight ∈ xtb := xt_6 200 (by decide +kernel) rfl
theorem w_1035 : Cond.instanceMethod yX12_allWeight ∈ xtb := xt_6 202 (by decide +kernel) rfl
theorem w_1036 : Cond.selects yX12_allWeight.cls yX12_allWeight yX12_allWeight ∈ xtb := xtb_k 60 (by decide +kernel) rfl
theorem w_1037 : Cond.fieldLink RX12 301 (TX12 36).1 (TX12 36).2.1 (TX12 36).2.2.1 ∈ xtb := xt_5 108 (by decide +kernel) rfl
theorem w_1038 : Cond.methodLink RX12 304 yX12_goMean ∈ xtb := xt_6 208 (by decide +kernel) rfl
theorem w_1039 : Cond.instanceMethod yX12_goMean ∈ xtb := xt_6 210 (by decide +kernel) rfl
theorem w_1040 : Cond.selects yX12_goMean.cls yX12_goMean yX12_goMean ∈ xtb := xtb_k 61 (by decide +kernel) rfl
theorem w_1041 : Cond.fieldLink RX12 307 (TX12 39).1 (TX12 39).2.1 (TX12 39).2.2.1 ∈ xtb := xt_5 111 (by decide +kernel) rfl
theorem w_1042 : Cond.methodLink RX12 310 yX12_has ∈ xtb := xt_6 232 (by decide +kernel) rfl
theorem w_1043 : Cond.static yX12_has ∈ xtb := xt_6 233 (by decide +kernel) rfl
theorem w_1044 : Cond.methodLink RX12 313 yX12_goOrder ∈ xtb := xt_6 228 (by decide +kernel) rfl
theorem w_1045 : Cond.instanceMethod yX12_goOrder ∈ xtb := xt_6 230 (by decide +kernel) rfl
theorem w_1046 : Cond.selects yX12_goOrder.cls yX12_goOrder yX12_goOrder ∈ xtb := xtb_k 64 (by decide +kernel) rfl
theorem w_1047 : Cond.methodLink RX12 316 yX12_bitsOf ∈ xtb := xt_6 220 (by decide +kernel) rfl
theorem w_1048 : Cond.static yX12_bitsOf ∈ xtb := xt_6 221 (by decide +kernel) rfl
theorem w_1049 : Cond.constantLong RX12 319 (-1) ∈ xtb := xt_6 227 (by decide +kernel) rfl
theorem w_1050 : Cond.fieldLink RX12 321 (TX12 38).1 (TX12 38).2.1 (TX12 38).2.2.1 ∈ xtb := xt_5 110 (by decide +kernel) rfl
theorem w_1051 : Cond.methodLink RX12 324 yX12_mayOrder ∈ xtb := xt_6 216 (by decide +kernel) rfl
theorem w_1052 : Cond.instanceMethod yX12_mayOrder ∈ xtb := xt_6 218 (by decide +kernel) rfl
theorem w_1053 : Cond.selects yX12_mayOrder.cls yX12_mayOrder yX12_mayOrder ∈ xtb := xtb_k 62 (by decide +kernel) rfl
theorem w_1054 : Cond.methodLink RX12 327 yX12_findOrder ∈ xtb := xt_6 223 (by decide +kernel) rfl
theorem w_1055 : Cond.instanceMethod yX12_findOrder ∈ xtb := xt_6 225 (by decide +kernel) rfl
theorem w_1056 : Cond.selects yX12_findOrder.cls yX12_findOrder yX12_findOrder ∈ xtb := xtb_k 63 (by decide +kernel) rfl
theorem w_1057 : Cond.methodLink RX12 330 yX12_lengthsOf ∈ xtb := xt_7 3 (by decide +kernel) rfl
theorem w_1058 : Cond.instanceMethod yX12_lengthsOf ∈ xtb := xt_7 5 (by decide +kernel) rfl
theorem w_1059 : Cond.selects yX12_lengthsOf.cls yX12_lengthsOf yX12_lengthsOf ∈ xtb := xtb_k 65 (by decide +kernel) rfl
theorem w_1060 : Cond.methodLink RX12 333 yX12_worthsOf ∈ xtb := xt_7 7 (by decide +kernel) rfl
theorem w_1061 : Cond.instanceMethod yX12_worthsOf ∈ xtb := xt_7 9 (by decide +kernel) rfl
theorem w_1062 : Cond.selects yX12_worthsOf.cls yX12_worthsOf yX12_worthsOf ∈ xtb := xtb_k 66 (by decide +kernel) rfl
theorem w_1063 : Cond.methodLink RX12 336 yX12_isThree ∈ xtb := xt_7 23 (by decide +kernel) rfl
theorem w_1064 : Cond.instanceMethod yX12_isThree ∈ xtb := xt_7 25 (by decide +kernel) rfl
theorem w_1065 : Cond.selects yX12_isThree.cls yX12_isThree yX12_isThree ∈ xtb := xtb_k 69 (by decide +kernel) rfl
theorem w_1066 : Cond.methodLink RX12 339 yX12_chanceBy ∈ xtb := xt_7 19 (by decide +kernel) rfl
theorem w_1067 : Cond.instanceMethod yX12_chanceBy ∈ xtb := xt_7 21 (by decide +kernel) rfl
theorem w_1068 : Cond.selects yX12_chanceBy.cls yX12_chanceBy yX12_chanceBy ∈ xtb := xtb_k 68 (by decide +kernel) rfl
theorem w_1069 : Cond.methodLink RX12 343 yX12_layChances ∈ xtb := xt_7 15 (by decide +kernel) rfl
theorem w_1070 : Cond.instanceMethod yX12_layChances ∈ xtb := xt_7 17 (by decide +kernel) rfl
theorem w_1071 : Cond.selects yX12_layChances.cls yX12_layChances yX12_layChances ∈ xtb := xtb_k 67 (by decide +kernel) rfl
theorem w_1072 : Cond.methodLink RX12 346 yX12_likeliest ∈ xtb := xt_7 27 (by decide +kernel) rfl
theorem w_1073 : Cond.instanceMethod yX12_likeliest ∈ xtb := xt_7 29 (by decide +kernel) rfl
theorem w_1074 : Cond.selects yX12_likeliest.cls yX12_likeliest yX12_likeliest ∈ xtb := xtb_k 70 (by decide +kernel) rfl
theorem w_1075 : Cond.methodLink RX12 349 yX12_differBy ∈ xtb := xt_7 39 (by decide +kernel) rfl
theorem w_1076 : Cond.instanceMethod yX12_differBy ∈ xtb := xt_7 41 (by decide +kernel) rfl
theorem w_1077 : Cond.selects yX12_differBy.cls yX12_differBy yX12_differBy ∈ xtb := xtb_k 71 (by decide +kernel) rfl
theorem w_1078 : Cond.methodLink RX12 352 yX12_senatorsOf ∈ xtb := xt_7 51 (by decide +kernel) rfl
theorem w_1079 : Cond.instanceMethod yX12_senatorsOf ∈ xtb := xt_7 53 (by decide +kernel) rfl
theorem w_1080 : Cond.selects yX12_senatorsOf.cls yX12_senatorsOf yX12_senatorsOf ∈ xtb := xtb_k 72 (by decide +kernel) rfl
theorem w_1081 : Cond.methodLink RX12 355 yX12_bestOf ∈ xtb := xt_7 59 (by decide +kernel) rfl
theorem w_1082 : Cond.instanceMethod yX12_bestOf ∈ xtb := xt_7 61 (by decide +kernel) rfl
theorem w_1083 : Cond.selects yX12_bestOf.cls yX12_bestOf yX12_bestOf ∈ xtb := xtb_k 73 (by decide +kernel) rfl
theorem w_1084 : Cond.methodLink RX12 359 yX12_windBy ∈ xtb := xt_7 63 (by decide +kernel) rfl
theorem w_1085 : Cond.static yX12_windBy ∈ xtb := xt_7 64 (by decide +kernel) rfl
theorem w_1086 : Cond.constant RX12 362 (1103515245) ∈ xtb := xt_7 70 (by decide +kernel) rfl
theorem w_1087 : Cond.fieldLink RX12 363 (TX12 42).1 (TX12 42).2.1 (TX12 42).2.2.1 ∈ xtb := xt_5 114 (by decide +kernel) rfl
theorem w_1088 : Cond.fieldLink RX12 366 (TX12 45).1 (TX12 45).2.1 (TX12 45).2.2.1 ∈ xtb := xt_5 117 (by decide +kernel) rfl
theorem w_1089 : Cond.fieldLink RX12 369 (TX12 47).1 (TX12 47).2.1 (TX12 47).2.2.1 ∈ xtb := xt_5 119 (by decide +kernel) rfl
theorem w_1090 : Cond.methodLink RX12 372 yX12_ran ∈ xtb := xt_7 122 (by decide +kernel) rfl
theorem w_1091 : Cond.instanceMethod yX12_ran ∈ xtb := xt_7 124 (by decide +kernel) rfl
theorem w_1092 : Cond.selects yX12_ran.cls yX12_ran yX12_ran ∈ xtb := xtb_k 76 (by decide +kernel) rfl
theorem w_1093 : Cond.methodLink RX12 375 yX12_plainReads ∈ xtb := xt_7 126 (by decide +kernel) rfl
theorem w_1094 : Cond.instanceMethod yX12_plainReads ∈ xtb := xt_7 128 (by decide +kernel) rfl
theorem w_1095 : Cond.selects yX12_plainReads.cls yX12_plainReads yX12_plainReads ∈ xtb := xtb_k 77 (by decide +kernel) rfl
theorem w_1096 : Cond.methodLink RX12 378 yX12_isUnder ∈ xtb := xt_7 119 (by decide +kernel) rfl
theorem w_1097 : Cond.static yX12_isUnder ∈ xtb := xt_7 120 (by decide +kernel) rfl
theorem w_1098 : Cond.methodLink RX12 381 yX12_twinReads ∈ xtb := xt_7 130 (by decide +kernel) rfl
theorem w_1099 : Cond.instanceMethod yX12_twinReads ∈ xtb := xt_7 132 (by decide +kernel) rfl
theorem w_1100 : Cond.selects yX12_twinReads.cls yX12_twinReads yX12_twinReads ∈ xtb := xtb_k 78 (by decide +kernel) rfl
theorem w_1101 : Cond.methodLink RX12 384 yX12_reading ∈ xtb := xt_7 115 (by decide +kernel) rfl
theorem w_1102 : Cond.instanceMethod yX12_reading ∈ xtb := xt_7 117 (by decide +kernel) rfl
theorem w_1103 : Cond.selects yX12_reading.cls yX12_reading yX12_reading ∈ xtb := xtb_k 75 (by decide +kernel) rfl
theorem w_1104 : Cond.methodLink RX12 387 yX12_plainCries ∈ xtb := xt_7 142 (by decide +kernel) rfl
theorem w_1105 : Cond.instanceMethod yX12_plainCries ∈ xtb := xt_7 144 (by decide +kernel) rfl
theorem w_1106 : Cond.selects yX12_plainCries.cls yX12_plainCries yX12_plainCries ∈ xtb := xtb_k 81 (by decide +kernel) rfl
theorem w_1107 : Cond.methodLink RX12 390 yX12_cryCries ∈ xtb := xt_7 138 (by decide +kernel) rfl
theorem w_1108 : Cond.instanceMethod yX12_cryCries ∈ xtb := xt_7 140 (by decide +kernel) rfl
theorem w_1109 : Cond.selects yX12_cryCries.cls yX12_cryCries yX12_cryCries ∈ xtb := xtb_k 80 (by decide +kernel) rfl
theorem w_1110 : Cond.methodLink RX12 393 yX12_hushing ∈ xtb := xt_7 146 (by decide +kernel) rfl
theorem w_1111 : Cond.instanceMethod yX12_hushing ∈ xtb := xt_7 148 (by decide +kernel) rfl
theorem w_1112 : Cond.selects yX12_hushing.cls yX12_hushing yX12_hushing ∈ xtb := xtb_k 82 (by decide +kernel) rfl
theorem w_1113 : Cond.methodLink RX12 396 yX12_plainHushes ∈ xtb := xt_7 154 (by decide +kernel) rfl
theorem w_1114 : Cond.instanceMethod yX12_plainHushes ∈ xtb := xt_7 156 (by decide +kernel) rfl
theorem w_1115 : Cond.selects yX12_plainHushes.cls yX12_plainHushes yX12_plainHushes ∈ xtb := xtb_k 84 (by decide +kernel) rfl
theorem w_1116 : Cond.methodLink RX12 399 yX12_nurseHushes ∈ xtb := xt_7 150 (by decide +kernel) rfl
theorem w_1117 : Cond.instanceMethod yX12_nurseHushes ∈ xtb := xt_7 152 (by decide +kernel) rfl
theorem w_1118 : Cond.selects yX12_nurseHushes.cls yX12_nurseHushes yX12_nurseHushes ∈ xtb := xtb_k 83 (by decide +kernel) rfl
theorem w_1119 : Cond.methodLink RX12 402 yX12_crying ∈ xtb := xt_7 134 (by decide +kernel) rfl
theorem w_1120 : Cond.instanceMethod yX12_crying ∈ xtb := xt_7 136 (by decide +kernel) rfl
theorem w_1121 : Cond.selects yX12_crying.cls yX12_crying yX12_crying ∈ xtb := xtb_k 79 (by decide +kernel) rfl
theorem w_1122 : Cond.methodLink RX12 405 yX12_plainTells ∈ xtb := xt_7 162 (by decide +kernel) rfl
theorem w_1123 : Cond.instanceMethod yX12_plainTells ∈ xtb := xt_7 164 (by decide +kernel) rfl
theorem w_1124 : Cond.selects yX12_plainTells.cls yX12_plainTells yX12_plainTells ∈ xtb := xtb_k 86 (by decide +kernel) rfl
theorem w_1125 : Cond.methodLink RX12 408 yX12_isBody ∈ xtb := xt_7 111 (by decide +kernel) rfl
theorem w_1126 : Cond.instanceMethod yX12_isBody ∈ xtb := xt_7 113 (by decide +kernel) rfl
theorem w_1127 : Cond.selects yX12_isBody.cls yX12_isBody yX12_isBody ∈ xtb := xtb_k 74 (by decide +kernel) rfl
theorem w_1128 : Cond.methodLink RX12 411 yX12_telling ∈ xtb := xt_7 158 (by decide +kernel) rfl
theorem w_1129 : Cond.instanceMethod yX12_telling ∈ xtb := xt_7 160 (by decide +kernel) rfl
theorem w_1130 : Cond.selects yX12_telling.cls yX12_telling yX12_telling ∈ xtb := xtb_k 85 (by decide +kernel) rfl
theorem w_1131 : Cond.methodLink RX12 414 yX12_whyNoPlace ∈ xtb := xt_7 182 (by decide +kernel) rfl
theorem w_1132 : Cond.instanceMethod yX12_whyNoPlace ∈ xtb := xt_7 184 (by decide +kernel) rfl
theorem w_1133 : Cond.selects yX12_whyNoPlace.cls yX12_whyNoPlace yX12_whyNoPlace ∈ xtb := xtb_k 87 (by decide +kernel) rfl
theorem w_1134 : Cond.constant RJ6 265 (1431655765) ∈ xtb := xt_3 149 (by decide +kernel) rfl
theorem w_1135 : Cond.constant RJ6 266 (858993459) ∈ xtb := xt_3 150 (by decide +kernel) rfl
theorem w_1136 : Cond.constant RJ6 267 (252645135) ∈ xtb := xt_3 151 (by decide +kernel) rfl
theorem w_1137 : Cond.classLink RL 7 RX11 ∈ xtb := xt_1 18 (by decide +kernel) rfl
theorem w_1138 : Cond.instantiable RX11 10 ∈ xtb := xt_1 19 (by decide +kernel) rfl
theorem w_1139 : Cond.initialized RX11 ∈ xtb := xt_1 1 (by decide +kernel) rfl
theorem w_1140 : Cond.methodLink RL 9 yX11_init ∈ xtb := xt_1 20 (by decide +kernel) rfl
theorem w_1141 : Cond.instanceMethod yX11_init ∈ xtb := xt_1 21 (by decide +kernel) rfl
theorem w_1142 : Cond.classLink RL 10 RX12 ∈ xtb := xt_5 67 (by decide +kernel) rfl
theorem w_1143 : Cond.instantiable RX12 53 ∈ xtb := xt_5 68 (by decide +kernel) rfl
theorem w_1144 : Cond.initialized RX12 ∈ xtb := xt_1 13 (by decide +kernel) rfl
theorem w_1145 : Cond.methodLink RL 12 yX12_init ∈ xtb := xt_5 69 (by decide +kernel) rfl
theorem w_1146 : Cond.instanceMethod yX12_init ∈ xtb := xt_5 70 (by decide +kernel) rfl
theorem w_1147 : Cond.methodLink RL 13 yX11_bill ∈ xtb := xt_2 61 (by decide +kernel) rfl
theorem w_1148 : Cond.instanceMethod yX11_bill ∈ xtb := xt_2 62 (by decide +kernel) rfl
theorem w_1149 : Cond.selects yX11_bill.cls yX11_bill yX11_bill ∈ xtb := xt_2 63 (by decide +kernel) rfl
theorem w_1150 : Cond.methodLink RL 17 yX12_bill ∈ xtb := xt_5 234 (by decide +kernel) rfl
theorem w_1151 : Cond.instanceMethod yX12_bill ∈ xtb := xt_5 235 (by decide +kernel) rfl
theorem w_1152 : Cond.selects yX12_bill.cls yX12_bill yX12_bill ∈ xtb := xt_5 236 (by decide +kernel) rfl
theorem w_1153 : Cond.methodLink RL 18 yX11_bills ∈ xtb := xt_2 69 (by decide +kernel) rfl
theorem w_1154 : Cond.instanceMethod yX11_bills ∈ xtb := xt_2 70 (by decide +kernel) rfl
theorem w_1155 : Cond.selects yX11_bills.cls yX11_bills yX11_bills ∈ xtb := xt_2 71 (by decide +kernel) rfl
theorem w_1156 : Cond.methodLink RL 22 yX12_bills ∈ xtb := xt_6 5 (by decide +kernel) rfl
theorem w_1157 : Cond.instanceMethod yX12_bills ∈ xtb := xt_6 6 (by decide +kernel) rfl
theorem w_1158 : Cond.selects yX12_bills.cls yX12_bills yX12_bills ∈ xtb := xt_6 7 (by decide +kernel) rfl
theorem w_1159 : Cond.methodLink RL 23 yX11_senator ∈ xtb := xt_2 108 (by decide +kernel) rfl
theorem w_1160 : Cond.instanceMethod yX11_senator ∈ xtb := xt_2 109 (by decide +kernel) rfl
theorem w_1161 : Cond.selects yX11_senator.cls yX11_senator yX11_senator ∈ xtb := xt_2 110 (by decide +kernel) rfl
theorem w_1162 : Cond.methodLink RL 27 yX12_senator ∈ xtb := xt_6 13 (by decide +kernel) rfl
theorem w_1163 : Cond.instanceMethod yX12_senator ∈ xtb := xt_6 14 (by decide +kernel) rfl
theorem w_1164 : Cond.selects yX12_senator.cls yX12_senator yX12_senator ∈ xtb := xt_6 15 (by decide +kernel) rfl
theorem w_1165 : Cond.methodLink RL 28 yX11_mend ∈ xtb := xt_2 116 (by decide +kernel) rfl
theorem w_1166 : Cond.instanceMethod yX11_mend ∈ xtb := xt_2 117 (by decide +kernel) rfl
theorem w_1167 : Cond.selects yX11_mend.cls yX11_mend yX11_mend ∈ xtb := xt_2 118 (by decide +kernel) rfl
theorem w_1168 : Cond.methodLink RL 31 yX12_mend ∈ xtb := xt_6 29 (by decide +kernel) rfl
theorem w_1169 : Cond.instanceMethod yX12_mend ∈ xtb := xt_6 30 (by decide +kernel) rfl
theorem w_1170 : Cond.selects yX12_mend.cls yX12_mend yX12_mend ∈ xtb := xt_6 31 (by decide +kernel) rfl
theorem w_1171 : Cond.methodLink RL 32 yX11_of ∈ xtb := xt_2 146 (by decide +kernel) rfl
theorem w_1172 : Cond.instanceMethod yX11_of ∈ xtb := xt_2 147 (by decide +kernel) rfl
theorem w_1173 : Cond.selects yX11_of.cls yX11_of yX11_of ∈ xtb := xt_2 148 (by decide +kernel) rfl
theorem w_1174 : Cond.methodLink RL 35 yX12_of ∈ xtb := xt_6 57 (by decide +kernel) rfl
theorem w_1175 : Cond.instanceMethod yX12_of ∈ xtb := xt_6 58 (by decide +kernel) rfl
theorem w_1176 : Cond.selects yX12_of.cls yX12_of yX12_of ∈ xtb := xt_6 59 (by decide +kernel) rfl
theorem w_1177 : Cond.methodLink RL 36 yX11_feed ∈ xtb := xt_2 150 (by decide +kernel) rfl
theorem w_1178 : Cond.instanceMethod yX11_feed ∈ xtb := xt_2 151 (by decide +kernel) rfl
theorem w_1179 : Cond.selects yX11_feed.cls yX11_feed yX11_feed ∈ xtb := xt_2 152 (by decide +kernel) rfl
theorem w_1180 : Cond.methodLink RL 39 yX12_feed ∈ xtb := xt_6 61 (by decide +kernel) rfl
theorem w_1181 : Cond.instanceMethod yX12_feed ∈ xtb := xt_6 62 (by decide +kernel) rfl
theorem w_1182 : Cond.selects yX12_feed.cls yX12_feed yX12_feed ∈ xtb := xt_6 63 (by decide +kernel) rfl
theorem w_1183 : Cond.methodLink RL 40 yX11_law ∈ xtb := xt_2 158 (by decide +kernel) rfl
theorem w_1184 : Cond.instanceMethod yX11_law ∈ xtb := xt_2 159 (by decide +kernel) rfl
theorem w_1185 : Cond.selects yX11_law.cls yX11_law yX11_law ∈ xtb := xt_2 160 (by decide +kernel) rfl
theorem w_1186 : Cond.methodLink RL 44 yX12_law ∈ xtb := xt_6 65 (by decide +kernel) rfl
theorem w_1187 : Cond.instanceMethod yX12_law ∈ xtb := xt_6 66 (by decide +kernel) rfl
theorem w_1188 : Cond.selects yX12_law.cls yX12_law yX12_law ∈ xtb := xt_6 67 (by decide +kernel) rfl
theorem w_1189 : Cond.methodLink RL 45 yX11_cross ∈ xtb := xt_2 230 (by decide +kernel) rfl
theorem w_1190 : Cond.instanceMethod yX11_cross ∈ xtb := xt_2 231 (by decide +kernel) rfl
theorem w_1191 : Cond.selects yX11_cross.cls yX11_cross yX11_cross ∈ xtb := xt_2 232 (by decide +kernel) rfl
theorem w_1192 : Cond.methodLink RL 48 yX12_cross ∈ xtb := xt_6 124 (by decide +kernel) rfl
theorem w_1193 : Cond.instanceMethod yX12_cross ∈ xtb := xt_6 125 (by decide +kernel) rfl
theorem w_1194 : Cond.selects yX12_cross.cls yX12_cross yX12_cross ∈ xtb := xt_6 126 (by decide +kernel) rfl
theorem w_1195 : Cond.methodLink RL 49 yX11_reader ∈ xtb := xt_3 42 (by decide +kernel) rfl
theorem w_1196 : Cond.instanceMethod yX11_reader ∈ xtb := xt_3 43 (by decide +kernel) rfl
theorem w_1197 : Cond.selects yX11_reader.cls yX11_reader yX11_reader ∈ xtb := xt_3 44 (by decide +kernel) rfl
theorem w_1198 : Cond.methodLink RL 52 yX12_reader ∈ xtb := xt_6 155 (by decide +kernel) rfl
theorem w_1199 : Cond.instanceMethod yX12_reader ∈ xtb := xt_6 156 (by decide +kernel) rfl
theorem w_1200 : Cond.selects yX12_reader.cls yX12_reader yX12_reader ∈ xtb := xt_6 157 (by decide +kernel) rfl
theorem w_1201 : Cond.methodLink RL 53 yX11_passes ∈ xtb := xt_3 50 (by decide +kernel) rfl
theorem w_1202 : Cond.instanceMethod yX11_passes ∈ xtb := xt_3 51 (by decide +kernel) rfl
theorem w_1203 : Cond.selects yX11_passes.cls yX11_passes yX11_passes ∈ xtb := xt_3 52 (by decide +kernel) rfl
theorem w_1204 : Cond.methodLink RL 57 yX12_passes ∈ xtb := xt_6 159 (by decide +kernel) rfl
theorem w_1205 : Cond.instanceMethod yX12_passes ∈ xtb := xt_6 160 (by decide +kernel) rfl
theorem w_1206 : Cond.selects yX12_passes.cls yX12_passes yX12_passes ∈ xtb := xt_6 161 (by decide +kernel) rfl
theorem w_1207 : Cond.methodLink RL 58 yX11_quiet ∈ xtb := xt_3 109 (by decide +kernel) rfl
theorem w_1208 : Cond.instanceMethod yX11_quiet ∈ xtb := xt_3 110 (by decide +kernel) rfl
theorem w_1209 : Cond.selects yX11_quiet.cls yX11_quiet yX11_quiet ∈ xtb := xt_3 111 (by decide +kernel) rfl
theorem w_1210 : Cond.methodLink RL 62 yX12_quiet ∈ xtb := xt_6 192 (by decide +kernel) rfl
theorem w_1211 : Cond.instanceMethod yX12_quiet ∈ xtb := xt_6 193 (by decide +kernel) rfl
theorem w_1212 : Cond.selects yX12_quiet.cls yX12_quiet yX12_quiet ∈ xtb := xt_6 194 (by decide +kernel) rfl
theorem w_1213 : Cond.methodLink RL 63 yX11_mean ∈ xtb := xt_3 121 (by decide +kernel) rfl
theorem w_1214 : Cond.instanceMethod yX11_mean ∈ xtb := xt_3 122 (by decide +kernel) rfl
theorem w_1215 : Cond.selects yX11_mean.cls yX11_mean yX11_mean ∈ xtb := xt_3 123 (by decide +kernel) rfl
theorem w_1216 : Cond.methodLink RL 66 yX12_mean ∈ xtb := xt_6 204 (by decide +kernel) rfl
theorem w_1217 : Cond.instanceMethod yX12_mean ∈ xtb := xt_6 205 (by decide +kernel) rfl
theorem w_1218 : Cond.selects yX12_mean.cls yX12_mean yX12_mean ∈ xtb := xt_6 206 (by decide +kernel) rfl
theorem w_1219 : Cond.methodLink RL 67 yX11_order ∈ xtb := xt_3 134 (by decide +kernel) rfl
theorem w_1220 : Cond.instanceMethod yX11_order ∈ xtb := xt_3 135 (by decide +kernel) rfl
theorem w_1221 : Cond.selects yX11_order.cls yX11_order yX11_order ∈ xtb := xt_3 136 (by decide +kernel) rfl
theorem w_1222 : Cond.methodLink RL 70 yX12_order ∈ xtb := xt_6 212 (by decide +kernel) rfl
theorem w_1223 : Cond.instanceMethod yX12_order ∈ xtb := xt_6 213 (by decide +kernel) rfl
theorem w_1224 : Cond.selects yX12_order.cls yX12_order yX12_order ∈ xtb := xt_6 214 (by decide +kernel) rfl
theorem w_1225 : Cond.methodLink RL 71 yX11_orderWorth ∈ xtb := xt_3 180 (by decide +kernel) rfl
theorem w_1226 : Cond.instanceMethod yX11_orderWorth ∈ xtb := xt_3 181 (by decide +kernel) rfl
theorem w_1227 : Cond.selects yX11_orderWorth.cls yX11_orderWorth yX11_orderWorth ∈ xtb := xt_3 182 (by decide +kernel) rfl
theorem w_1228 : Cond.methodLink RL 74 yX12_orderWorth ∈ xtb := xt_6 235 (by decide +kernel) rfl
theorem w_1229 : Cond.instanceMethod yX12_orderWorth ∈ xtb := xt_6 236 (by decide +kernel) rfl
theorem w_1230 : Cond.selects yX12_orderWorth.cls yX12_orderWorth yX12_orderWorth ∈ xtb := xt_6 237 (by decide +kernel) rfl
theorem w_1231 : Cond.methodLink RL 75 yX11_pack ∈ xtb := xt_3 189 (by decide +kernel) rfl
theorem w_1232 : Cond.instanceMethod yX11_pack ∈ xtb := xt_3 190 (by decide +kernel) rfl
theorem w_1233 : Cond.selects yX11_pack.cls yX11_pack yX11_pack ∈ xtb := xt_3 191 (by decide +kernel) rfl
theorem w_1234 : Cond.methodLink RL 78 yX12_pack ∈ xtb := xt_6 239 (by decide +kernel) rfl
theorem w_1235 : Cond.instanceMethod yX12_pack ∈ xtb := xt_7 0 (by decide +kernel) rfl
theorem w_1236 : Cond.selects yX12_pack.cls yX12_pack yX12_pack ∈ xtb := xt_7 1 (by decide +kernel) rfl
theorem w_1237 : Cond.methodLink RL 79 yX11_causes ∈ xtb := xt_3 202 (by decide +kernel) rfl
theorem w_1238 : Cond.instanceMethod yX11_causes ∈ xtb := xt_3 203 (by decide +kernel) rfl
theorem w_1239 : Cond.selects yX11_causes.cls yX11_causes yX11_causes ∈ xtb := xt_3 204 (by decide +kernel) rfl
theorem w_1240 : Cond.methodLink RL 82 yX12_causes ∈ xtb := xt_7 11 (by decide +kernel) rfl
theorem w_1241 : Cond.instanceMethod yX12_causes ∈ xtb := xt_7 12 (by decide +kernel) rfl
theorem w_1242 : Cond.selects yX12_causes.cls yX12_causes yX12_causes ∈ xtb := xt_7 13 (by decide +kernel) rfl
theorem w_1243 : Cond.methodLink RL 83 yX11_cause ∈ xtb := xt_3 227 (by decide +kernel) rfl
theorem w_1244 : Cond.instanceMethod yX11_cause ∈ xtb := xt_3 228 (by decide +kernel) rfl
theorem w_1245 : Cond.selects yX11_cause.cls yX11_cause yX11_cause ∈ xtb := xt_3 229 (by decide +kernel) rfl
theorem w_1246 : Cond.methodLink RL 86 yX12_cause ∈ xtb := xt_7 31 (by decide +kernel) rfl
theorem w_1247 : Cond.instanceMethod yX12_cause ∈ xtb := xt_7 32 (by decide +kernel) rfl
theorem w_1248 : Cond.selects yX12_cause.cls yX12_cause yX12_cause ∈ xtb := xt_7 33 (by decide +kernel) rfl
theorem w_1249 : Cond.methodLink RL 87 yX11_apart ∈ xtb := xt_4 0 (by decide +kernel) rfl
theorem w_1250 : Cond.instanceMethod yX11_apart ∈ xtb := xt_4 1 (by decide +kernel) rfl
theorem w_1251 : Cond.selects yX11_apart.cls yX11_apart yX11_apart ∈ xtb := xt_4 2 (by decide +kernel) rfl
theorem w_1252 : Cond.methodLink RL 90 yX12_apart ∈ xtb := xt_7 35 (by decide +kernel) rfl
theorem w_1253 : Cond.instanceMethod yX12_apart ∈ xtb := xt_7 36 (by decide +kernel) rfl
theorem w_1254 : Cond.selects yX12_apart.cls yX12_apart yX12_apart ∈ xtb := xt_7 37 (by decide +kernel) rfl
theorem w_1255 : Cond.methodLink RL 91 yX11_power ∈ xtb := xt_4 11 (by decide +kernel) rfl
theorem w_1256 : Cond.instanceMethod yX11_power ∈ xtb := xt_4 12 (by decide +kernel) rfl
theorem w_1257 : Cond.selects yX11_power.cls yX11_power yX11_power ∈ xtb := xt_4 13 (by decide +kernel) rfl
theorem w_1258 : Cond.methodLink RL 95 yX12_power ∈ xtb := xt_7 43 (by decide +kernel) rfl
theorem w_1259 : Cond.instanceMethod yX12_power ∈ xtb := xt_7 44 (by decide +kernel) rfl
theorem w_1260 : Cond.selects yX12_power.cls yX12_power yX12_power ∈ xtb := xt_7 45 (by decide +kernel) rfl
theorem w_1261 : Cond.methodLink RL 96 yX11_leagues ∈ xtb := xt_4 15 (by decide +kernel) rfl
theorem w_1262 : Cond.instanceMethod yX11_leagues ∈ xtb := xt_4 16 (by decide +kernel) rfl
theorem w_1263 : Cond.selects yX11_leagues.cls yX11_leagues yX11_leagues ∈ xtb := xt_4 17 (by decide +kernel) rfl
theorem w_1264 : Cond.methodLink RL 99 yX12_leagues ∈ xtb := xt_7 47 (by decide +kernel) rfl
theorem w_1265 : Cond.instanceMethod yX12_leagues ∈ xtb := xt_7 48 (by decide +kernel) rfl
theorem w_1266 : Cond.selects yX12_leagues.cls yX12_leagues yX12_leagues ∈ xtb := xt_7 49 (by decide +kernel) rfl
theorem w_1267 : Cond.methodLink RL 100 yX11_byTurns ∈ xtb := xt_4 28 (by decide +kernel) rfl
theorem w_1268 : Cond.instanceMethod yX11_byTurns ∈ xtb := xt_4 29 (by decide +kernel) rfl
theorem w_1269 : Cond.selects yX11_byTurns.cls yX11_byTurns yX11_byTurns ∈ xtb := xt_4 30 (by decide +kernel) rfl
theorem w_1270 : Cond.methodLink RL 103 yX12_byTurns ∈ xtb := xt_7 55 (by decide +kernel) rfl
theorem w_1271 : Cond.instanceMethod yX12_byTurns ∈ xtb := xt_7 56 (by decide +kernel) rfl
theorem w_1272 : Cond.selects yX12_byTurns.cls yX12_byTurns yX12_byTurns ∈ xtb := xt_7 57 (by decide +kernel) rfl
theorem w_1273 : Cond.methodLink RL 104 yX11_drawn ∈ xtb := xt_4 57 (by decide +kernel) rfl
theorem w_1274 : Cond.instanceMethod yX11_drawn ∈ xtb := xt_4 58 (by decide +kernel) rfl
theorem w_1275 : Cond.selects yX11_drawn.cls yX11_drawn yX11_drawn ∈ xtb := xt_4 59 (by decide +kernel) rfl
theorem w_1276 : Cond.methodLink RL 108 yX12_drawn ∈ xtb := xt_7 66 (by decide +kernel) rfl
theorem w_1277 : Cond.instanceMethod yX12_drawn ∈ xtb := xt_7 67 (by decide +kernel) rfl
theorem w_1278 : Cond.selects yX12_drawn.cls yX12_drawn yX12_drawn ∈ xtb := xt_7 68 (by decide +kernel) rfl
theorem w_1279 : Cond.methodLink RL 109 yX11_read ∈ xtb := xt_4 76 (by decide +kernel) rfl
theorem w_1280 : Cond.instanceMethod yX11_read ∈ xtb := xt_4 77 (by decide +kernel) rfl
theorem w_1281 : Cond.selects yX11_read.cls yX11_read yX11_read ∈ xtb := xt_4 78 (by decide +kernel) rfl
theorem w_1282 : Cond.methodLink RL 112 yX12_read ∈ xtb := xt_7 71 (by decide +kernel) rfl
theorem w_1283 : Cond.instanceMethod yX12_read ∈ xtb := xt_7 72 (by decide +kernel) rfl
theorem w_1284 : Cond.selects yX12_read.cls yX12_read yX12_read ∈ xtb := xt_7 73 (by decide +kernel) rfl
theorem w_1285 : Cond.methodLink RL 113 yX11_fed ∈ xtb := xt_4 91 (by decide +kernel) rfl
theorem w_1286 : Cond.instanceMethod yX11_fed ∈ xtb := xt_4 92 (by decide +kernel) rfl
theorem w_1287 : Cond.selects yX11_fed.cls yX11_fed yX11_fed ∈ xtb := xt_4 93 (by decide +kernel) rfl
theorem w_1288 : Cond.methodLink RL 116 yX12_fed ∈ xtb := xt_7 75 (by decide +kernel) rfl
theorem w_1289 : Cond.instanceMethod yX12_fed ∈ xtb := xt_7 76 (by decide +kernel) rfl
theorem w_1290 : Cond.selects yX12_fed.cls yX12_fed yX12_fed ∈ xtb := xt_7 77 (by decide +kernel) rfl
theorem w_1291 : Cond.methodLink RL 117 yX11_born ∈ xtb := xt_4 99 (by decide +kernel) rfl
theorem w_1292 : Cond.instanceMethod yX11_born ∈ xtb := xt_4 100 (by decide +kernel) rfl
theorem w_1293 : Cond.selects yX11_born.cls yX11_born yX11_born ∈ xtb := xt_4 101 (by decide +kernel) rfl
theorem w_1294 : Cond.methodLink RL 120 yX12_born ∈ xtb := xt_7 79 (by decide +kernel) rfl
theorem w_1295 : Cond.instanceMethod yX12_born ∈ xtb := xt_7 80 (by decide +kernel) rfl
theorem w_1296 : Cond.selects yX12_born.cls yX12_born yX12_born ∈ xtb := xt_7 81 (by decide +kernel) rfl
theorem w_1297 : Cond.methodLink RL 121 yX11_pass ∈ xtb := xt_4 107 (by decide +kernel) rfl
theorem w_1298 : Cond.instanceMethod yX11_pass ∈ xtb := xt_4 108 (by decide +kernel) rfl
theorem w_1299 : Cond.selects yX11_pass.cls yX11_pass yX11_pass ∈ xtb := xt_4 109 (by decide +kernel) rfl
theorem w_1300 : Cond.methodLink RL 124 yX12_pass ∈ xtb := xt_7 83 (by decide +kernel) rfl
theorem w_1301 : Cond.instanceMethod yX12_pass ∈ xtb := xt_7 84 (by decide +kernel) rfl
theorem w_1302 : Cond.selects yX12_pass.cls yX12_pass yX12_pass ∈ xtb := xt_7 85 (by decide +kernel) rfl
theorem w_1303 : Cond.methodLink RL 125 yX11_led ∈ xtb := xt_4 116 (by decide +kernel) rfl
theorem w_1304 : Cond.instanceMethod yX11_led ∈ xtb := xt_4 117 (by decide +kernel) rfl
theorem w_1305 : Cond.selects yX11_led.cls yX11_led yX11_led ∈ xtb := xt_4 118 (by decide +kernel) rfl
theorem w_1306 : Cond.methodLink RL 128 yX12_led ∈ xtb := xt_7 87 (by decide +kernel) rfl
theorem w_1307 : Cond.instanceMethod yX12_led ∈ xtb := xt_7 88 (by decide +kernel) rfl
theorem w_1308 : Cond.selects yX12_led.cls yX12_led yX12_led ∈ xtb := xt_7 89 (by decide +kernel) rfl
theorem w_1309 : Cond.methodLink RL 129 yX11_image ∈ xtb := xt_4 124 (by decide +kernel) rfl
theorem w_1310 : Cond.instanceMethod yX11_image ∈ xtb := xt_4 125 (by decide +kernel) rfl
theorem w_1311 : Cond.selects yX11_image.cls yX11_image yX11_image ∈ xtb := xt_4 126 (by decide +kernel) rfl
theorem w_1312 : Cond.methodLink RL 132 yX12_image ∈ xtb := xt_7 91 (by decide +kernel) rfl
theorem w_1313 : Cond.instanceMethod yX12_image ∈ xtb := xt_7 92 (by decide +kernel) rfl
theorem w_1314 : Cond.selects yX12_image.cls yX12_image yX12_image ∈ xtb := xt_7 93 (by decide +kernel) rfl
theorem w_1315 : Cond.methodLink RL 133 yX11_back ∈ xtb := xt_4 133 (by decide +kernel) rfl
theorem w_1316 : Cond.instanceMethod yX11_back ∈ xtb := xt_4 134 (by decide +kernel) rfl
theorem w_1317 : Cond.selects yX11_back.cls yX11_back yX11_back ∈ xtb := xt_4 135 (by decide +kernel) rfl
theorem w_1318 : Cond.methodLink RL 136 yX12_back ∈ xtb := xt_7 95 (by decide +kernel) rfl
theorem w_1319 : Cond.instanceMethod yX12_back ∈ xtb := xt_7 96 (by decide +kernel) rfl
theorem w_1320 : Cond.selects yX12_back.cls yX12_back yX12_back ∈ xtb := xt_7 97 (by decide +kernel) rfl
theorem w_1321 : Cond.methodLink RL 137 yX11_undo ∈ xtb := xt_4 141 (by decide +kernel) rfl
theorem w_1322 : Cond.instanceMethod yX11_undo ∈ xtb := xt_4 142 (by decide +kernel) rfl
theorem w_1323 : Cond.selects yX11_undo.cls yX11_undo yX11_undo ∈ xtb := xt_4 143 (by decide +kernel) rfl
theorem w_1324 : Cond.methodLink RL 140 yX12_undo ∈ xtb := xt_6 17 (by decide +kernel) rfl
theorem w_1325 : Cond.instanceMethod yX12_undo ∈ xtb := xt_6 18 (by decide +kernel) rfl
theorem w_1326 : Cond.selects yX12_undo.cls yX12_undo yX12_undo ∈ xtb := xt_6 19 (by decide +kernel) rfl
theorem w_1327 : Cond.methodLink RL 141 yX11_redo ∈ xtb := xt_4 153 (by decide +kernel) rfl
theorem w_1328 : Cond.instanceMethod yX11_redo ∈ xtb := xt_4 154 (by decide +kernel) rfl
theorem w_1329 : Cond.selects yX11_redo.cls yX11_redo yX11_redo ∈ xtb := xt_4 155 (by decide +kernel) rfl
theorem w_1330 : Cond.methodLink RL 144 yX12_redo ∈ xtb := xt_6 25 (by decide +kernel) rfl
theorem w_1331 : Cond.instanceMethod yX12_redo ∈ xtb := xt_6 26 (by decide +kernel) rfl
theorem w_1332 : Cond.selects yX12_redo.cls yX12_redo yX12_redo ∈ xtb := xt_6 27 (by decide +kernel) rfl
theorem w_1333 : Cond.methodLink RL 145 yX11_body ∈ xtb := xt_4 165 (by decide +kernel) rfl
theorem w_1334 : Cond.instanceMethod yX11_body ∈ xtb := xt_4 166 (by decide +kernel) rfl
theorem w_1335 : Cond.selects yX11_body.cls yX11_body yX11_body ∈ xtb := xt_4 167 (by decide +kernel) rfl
theorem w_1336 : Cond.methodLink RL 148 yX12_body ∈ xtb := xt_7 103 (by decide +kernel) rfl
theorem w_1337 : Cond.instanceMethod yX12_body ∈ xtb := xt_7 104 (by decide +kernel) rfl
theorem w_1338 : Cond.selects yX12_body.cls yX12_body yX12_body ∈ xtb := xt_7 105 (by decide +kernel) rfl
theorem w_1339 : Cond.methodLink RL 149 yX11_act ∈ xtb := xt_4 176 (by decide +kernel) rfl
theorem w_1340 : Cond.instanceMethod yX11_act ∈ xtb := xt_4 177 (by decide +kernel) rfl
theorem w_1341 : Cond.selects yX11_act.cls yX11_act yX11_act ∈ xtb := xt_4 178 (by decide +kernel) rfl
theorem w_1342 : Cond.methodLink RL 152 yX12_act ∈ xtb := xt_7 107 (by decide +kernel) rfl
theorem w_1343 : Cond.instanceMethod yX12_act ∈ xtb := xt_7 108 (by decide +kernel) rfl
theorem w_1344 : Cond.selects yX12_act.cls yX12_act yX12_act ∈ xtb := xt_7 109 (by decide +kernel) rfl
theorem w_1345 : Cond.methodLink RL 153 yX11_trace ∈ xtb := xt_4 204 (by decide +kernel) rfl
theorem w_1346 : Cond.instanceMethod yX11_trace ∈ xtb := xt_4 205 (by decide +kernel) rfl
theorem w_1347 : Cond.selects yX11_trace.cls yX11_trace yX11_trace ∈ xtb := xt_4 206 (by decide +kernel) rfl
theorem w_1348 : Cond.methodLink RL 156 yX12_trace ∈ xtb := xt_7 99 (by decide +kernel) rfl
theorem w_1349 : Cond.instanceMethod yX12_trace ∈ xtb := xt_7 100 (by decide +kernel) rfl
theorem w_1350 : Cond.selects yX12_trace.cls yX12_trace yX12_trace ∈ xtb := xt_7 101 (by decide +kernel) rfl
theorem w_1351 : Cond.methodLink RL 157 yX11_keep ∈ xtb := xt_4 212 (by decide +kernel) rfl
theorem w_1352 : Cond.instanceMethod yX11_keep ∈ xtb := xt_4 213 (by decide +kernel) rfl
theorem w_1353 : Cond.selects yX11_keep.cls yX11_keep yX11_keep ∈ xtb := xt_4 214 (by decide +kernel) rfl
theorem w_1354 : Cond.methodLink RL 160 yX12_keep ∈ xtb := xt_7 170 (by decide +kernel) rfl
theorem w_1355 : Cond.instanceMethod yX12_keep ∈ xtb := xt_7 171 (by decide +kernel) rfl
theorem w_1356 : Cond.selects yX12_keep.cls yX12_keep yX12_keep ∈ xtb := xt_7 172 (by decide +kernel) rfl
theorem w_1357 : Cond.methodLink RL 161 yX11_row ∈ xtb := xt_4 225 (by decide +kernel) rfl
theorem w_1358 : Cond.instanceMethod yX11_row ∈ xtb := xt_4 226 (by decide +kernel) rfl
theorem w_1359 : Cond.selects yX11_row.cls yX11_row yX11_row ∈ xtb := xt_4 227 (by decide +kernel) rfl
theorem w_1360 : Cond.methodLink RL 164 yX12_row ∈ xtb := xt_7 174 (by decide +kernel) rfl
theorem w_1361 : Cond.instanceMethod yX12_row ∈ xtb := xt_7 175 (by decide +kernel) rfl
theorem w_1362 : Cond.selects yX12_row.cls yX12_row yX12_row ∈ xtb := xt_7 176 (by decide +kernel) rfl
theorem w_1363 : Cond.constantLong RL 165 (4294967295) ∈ xtb := xt_7 198 (by decide +kernel) rfl
theorem w_1364 : Cond.methodLink RL 167 yX11_put ∈ xtb := xt_4 236 (by decide +kernel) rfl
theorem w_1365 : Cond.instanceMethod yX11_put ∈ xtb := xt_4 237 (by decide +kernel) rfl
theorem w_1366 : Cond.selects yX11_put.cls yX11_put yX11_put ∈ xtb := xt_4 238 (by decide +kernel) rfl
theorem w_1367 : Cond.methodLink RL 171 yX12_put ∈ xtb := xt_7 178 (by decide +kernel) rfl
theorem w_1368 : Cond.instanceMethod yX12_put ∈ xtb := xt_7 179 (by decide +kernel) rfl
theorem w_1369 : Cond.selects yX12_put.cls yX12_put yX12_put ∈ xtb := xt_7 180 (by decide +kernel) rfl
theorem w_1370 : Cond.methodLink RL 172 yX11_element ∈ xtb := xt_5 14 (by decide +kernel) rfl
theorem w_1371 : Cond.instanceMethod yX11_element ∈ xtb := xt_5 15 (by decide +kernel) rfl
theorem w_1372 : Cond.selects yX11_element.cls yX11_element yX11_element ∈ xtb := xt_5 16 (by decide +kernel) rfl
theorem w_1373 : Cond.methodLink RL 175 yX12_element ∈ xtb := xt_7 186 (by decide +kernel) rfl
theorem w_1374 : Cond.instanceMethod yX12_element ∈ xtb := xt_7 187 (by decide +kernel) rfl
theorem w_1375 : Cond.selects yX12_element.cls yX12_element yX12_element ∈ xtb := xt_7 188 (by decide +kernel) rfl
theorem w_1376 : Cond.methodLink RL 176 yX11_shift ∈ xtb := xt_5 23 (by decide +kernel) rfl
theorem w_1377 : Cond.instanceMethod yX11_shift ∈ xtb := xt_5 24 (by decide +kernel) rfl
theorem w_1378 : Cond.selects yX11_shift.cls yX11_shift yX11_shift ∈ xtb := xt_5 25 (by decide +kernel) rfl
theorem w_1379 : Cond.methodLink RL 180 yX12_shift ∈ xtb := xt_7 190 (by decide +kernel) rfl
theorem w_1380 : Cond.instanceMethod yX12_shift ∈ xtb := xt_7 191 (by decide +kernel) rfl
theorem w_1381 : Cond.selects yX12_shift.cls yX12_shift yX12_shift ∈ xtb := xt_7 192 (by decide +kernel) rfl
theorem w_1382 : Cond.methodLink RL 181 yX11_taken ∈ xtb := xt_5 36 (by decide +kernel) rfl
theorem w_1383 : Cond.instanceMethod yX11_taken ∈ xtb := xt_5 37 (by decide +kernel) rfl
theorem w_1384 : Cond.selects yX11_taken.cls yX11_taken yX11_taken ∈ xtb := xt_5 38 (by decide +kernel) rfl
theorem w_1385 : Cond.methodLink RL 184 yX12_taken ∈ xtb := xt_7 194 (by decide +kernel) rfl
theorem w_1386 : Cond.instanceMethod yX12_taken ∈ xtb := xt_7 195 (by decide +kernel) rfl
theorem w_1387 : Cond.selects yX12_taken.cls yX12_taken yX12_taken ∈ xtb := xt_7 196 (by decide +kernel) rfl
theorem w_1388 : Cond.methodLink RL 185 yX11_count ∈ xtb := xt_5 51 (by decide +kernel) rfl
theorem w_1389 : Cond.instanceMethod yX11_count ∈ xtb := xt_5 52 (by decide +kernel) rfl
theorem w_1390 : Cond.selects yX11_count.cls yX11_count yX11_count ∈ xtb := xt_5 53 (by decide +kernel) rfl
theorem w_1391 : Cond.methodLink RL 188 yX12_count ∈ xtb := xt_7 166 (by decide +kernel) rfl
theorem w_1392 : Cond.instanceMethod yX12_count ∈ xtb := xt_7 167 (by decide +kernel) rfl
theorem w_1393 : Cond.selects yX12_count.cls yX12_count yX12_count ∈ xtb := xt_7 168 (by decide +kernel) rfl
theorem ok_X0_init : xMok M_X0_init 1 := ⟨w_0, w_1, by decide +kernel, by decide⟩
theorem ok_X0_size : xMok M_X0_size 0 := ⟨w_2, w_1, by decide +kernel, by decide⟩
theorem ok_X0_take : xMok M_X0_take 1 := ⟨w_3, w_1, by decide +kernel, by decide⟩
theorem ok_X0_tell : xMok M_X0_tell 2 := ⟨w_4, w_1, by decide +kernel, by decide⟩
theorem ok_X0_begin : xMok M_X0_begin 0 := ⟨w_5, w_1, by decide +kernel, by decide⟩
theorem ok_X0_step : xMok M_X0_step 2 := ⟨w_6, w_1, by decide +kernel, by decide⟩
theorem ok_X0_passing : xMok M_X0_passing 1 := ⟨w_7, w_1, by decide +kernel, by decide⟩
theorem ok_X0_quietFrom : xMok M_X0_quietFrom 2 := ⟨w_8, w_1, by decide +kernel, by decide⟩
theorem ok_X0_worthOf : xMok M_X0_worthOf 1 := ⟨w_9, w_1, by decide +kernel, by decide⟩
theorem ok_X0_drawnYears : xMok M_X0_drawnYears 4 := ⟨w_10, w_1, by decide +kernel, by decide⟩
theorem ok_X0_gain : xMok M_X0_gain 2 := ⟨w_11, w_1, by decide +kernel, by decide⟩
theorem ok_X1_init : xMok M_X1_init 1 := ⟨w_12, w_13, by decide +kernel, by decide⟩
theorem ok_X1_weigh : xMok M_X1_weigh 2 := ⟨w_14, w_13, by decide +kernel, by decide⟩
theorem ok_X1_weight : xMok M_X1_weight 3 := ⟨w_15, w_13, by decide +kernel, by decide⟩
theorem ok_X1_possible : xMok M_X1_possible 0 := ⟨w_16, w_13, by decide +kernel, by decide⟩
theorem ok_X1_likeliest : xMok M_X1_likeliest 0 := ⟨w_17, w_13, by decide +kernel, by decide⟩
theorem ok_X1_most : xMok M_X1_most 0 := ⟨w_18, w_13, by decide +kernel, by decide⟩
theorem ok_X1_together : xMok M_X1_together 0 := ⟨w_19, w_13, by decide +kernel, by decide⟩
theorem ok_X1_difference : xMok M_X1_difference 3 := ⟨w_20, w_13, by decide +kernel, by decide⟩
theorem ok_X2_init : xMok M_X2_init 1 := ⟨w_21, w_22, by decide +kernel, by decide⟩
theorem ok_X2_behind : xMok M_X2_behind 0 := ⟨w_23, w_22, by decide +kernel, by decide⟩
theorem ok_X2_ahead : xMok M_X2_ahead 0 := ⟨w_24, w_22, by decide +kernel, by decide⟩
theorem ok_X2_make : xMok M_X2_make 3 := ⟨w_25, w_22, by decide +kernel, by decide⟩
theorem ok_X2_forgetFirst : xMok M_X2_forgetFirst 0 := ⟨w_26, w_22, by decide +kernel, by decide⟩
theorem ok_X2_goBack : xMok M_X2_goBack 0 := ⟨w_27, w_22, by decide +kernel, by decide⟩
theorem ok_X2_goOn : xMok M_X2_goOn 0 := ⟨w_28, w_22, by decide +kernel, by decide⟩
theorem ok_X3_init : xMok M_X3_init 0 := ⟨w_29, w_30, by decide +kernel, by decide⟩
theorem ok_X3_isKind : xMok M_X3_isKind 1 := ⟨w_31, w_30, by decide +kernel, by decide⟩
theorem ok_X3_isUnder : xMok M_X3_isUnder 2 := ⟨w_32, w_30, by decide +kernel, by decide⟩
theorem ok_X3_size : xMok M_X3_size 0 := ⟨w_33, w_30, by decide +kernel, by decide⟩
theorem ok_X3_ran : xMok M_X3_ran 0 := ⟨w_34, w_30, by decide +kernel, by decide⟩
theorem ok_X3_has : xMok M_X3_has 1 := ⟨w_35, w_30, by decide +kernel, by decide⟩
theorem ok_X3_kindOf : xMok M_X3_kindOf 1 := ⟨w_36, w_30, by decide +kernel, by decide⟩
theorem ok_X3_add : xMok M_X3_add 1 := ⟨w_37, w_30, by decide +kernel, by decide⟩
theorem ok_X3_traceAt : xMok M_X3_traceAt 1 := ⟨w_38, w_30, by decide +kernel, by decide⟩
theorem ok_X3_perform : xMok M_X3_perform 3 := ⟨w_39, w_30, by decide +kernel, by decide⟩
theorem ok_X3_holder : xMok M_X3_holder 2 := ⟨w_40, w_30, by decide +kernel, by decide⟩
theorem ok_X3_note : xMok M_X3_note 1 := ⟨w_41, w_30, by decide +kernel, by decide⟩
theorem ok_X3_run : xMok M_X3_run 4 := ⟨w_42, w_30, by decide +kernel, by decide⟩
theorem ok_X4_init : xMok M_X4_init 1 := ⟨w_43, w_44, by decide +kernel, by decide⟩
theorem ok_X4_drawBehind : xMok M_X4_drawBehind 1 := ⟨w_45, w_44, by decide +kernel, by decide⟩
theorem ok_X4_cries : xMok M_X4_cries 2 := ⟨w_46, w_44, by decide +kernel, by decide⟩
theorem ok_X4_done : xMok M_X4_done 1 := ⟨w_47, w_44, by decide +kernel, by decide⟩
theorem ok_X4_hear : xMok M_X4_hear 1 := ⟨w_48, w_44, by decide +kernel, by decide⟩
theorem ok_X4_nourish : xMok M_X4_nourish 0 := ⟨w_49, w_44, by decide +kernel, by decide⟩
theorem ok_X4_bringIn : xMok M_X4_bringIn 2 := ⟨w_50, w_44, by decide +kernel, by decide⟩
theorem ok_X4_letPass : xMok M_X4_letPass 1 := ⟨w_51, w_44, by decide +kernel, by decide⟩
theorem ok_X4_picture : xMok M_X4_picture 0 := ⟨w_52, w_44, by decide +kernel, by decide⟩
theorem ok_X4_layBack : xMok M_X4_layBack 0 := ⟨w_53, w_44, by decide +kernel, by decide⟩
theorem ok_X5_init : xMok M_X5_init 0 := ⟨w_54, w_55, by decide +kernel, by decide⟩
theorem ok_X5_billCount : xMok M_X5_billCount 0 := ⟨w_56, w_55, by decide +kernel, by decide⟩
theorem ok_X5_senatorCount : xMok M_X5_senatorCount 0 := ⟨w_57, w_55, by decide +kernel, by decide⟩
theorem ok_X5_addBill : xMok M_X5_addBill 3 := ⟨w_58, w_55, by decide +kernel, by decide⟩
theorem ok_X5_addSenator : xMok M_X5_addSenator 2 := ⟨w_59, w_55, by decide +kernel, by decide⟩
theorem ok_X5_has : xMok M_X5_has 2 := ⟨w_60, w_55, by decide +kernel, by decide⟩
theorem ok_X5_may : xMok M_X5_may 2 := ⟨w_61, w_55, by decide +kernel, by decide⟩
theorem ok_X5_get : xMok M_X5_get 2 := ⟨w_62, w_55, by decide +kernel, by decide⟩
theorem ok_X5_set : xMok M_X5_set 3 := ⟨w_63, w_55, by decide +kernel, by decide⟩
theorem ok_X5_its : xMok M_X5_its 1 := ⟨w_64, w_55, by decide +kernel, by decide⟩
theorem ok_X5_follow : xMok M_X5_follow 1 := ⟨w_65, w_55, by decide +kernel, by decide⟩
theorem ok_X5_isReading : xMok M_X5_isReading 1 := ⟨w_66, w_55, by decide +kernel, by decide⟩
theorem ok_X5_reading : xMok M_X5_reading 2 := ⟨w_67, w_55, by decide +kernel, by decide⟩
theorem ok_X5_worth : xMok M_X5_worth 1 := ⟨w_68, w_55, by decide +kernel, by decide⟩
theorem ok_X5_later : xMok M_X5_later 2 := ⟨w_69, w_55, by decide +kernel, by decide⟩
theorem ok_X5_sinceBehind : xMok M_X5_sinceBehind 2 := ⟨w_70, w_55, by decide +kernel, by decide⟩
theorem ok_X5_crying : xMok M_X5_crying 4 := ⟨w_71, w_55, by decide +kernel, by decide⟩
theorem ok_X5_cryingNow : xMok M_X5_cryingNow 1 := ⟨w_72, w_55, by decide +kernel, by decide⟩
theorem ok_X5_sum : xMok M_X5_sum 2 := ⟨w_73, w_55, by decide +kernel, by decide⟩
theorem ok_X5_members : xMok M_X5_members 1 := ⟨w_74, w_55, by decide +kernel, by decide⟩
theorem ok_X5_isLeague : xMok M_X5_isLeague 1 := ⟨w_75, w_55, by decide +kernel, by decide⟩
theorem ok_X6_init : xMok M_X6_init 0 := ⟨w_76, w_77, by decide +kernel, by decide⟩
theorem ok_X6_nameOf : xMok M_X6_nameOf 1 := ⟨w_78, w_77, by decide +kernel, by decide⟩
theorem ok_X6_become : xMok M_X6_become 1 := ⟨w_79, w_77, by decide +kernel, by decide⟩
theorem ok_X6_tell : xMok M_X6_tell 6 := ⟨w_80, w_77, by decide +kernel, by decide⟩
theorem ok_X6_isWritten : xMok M_X6_isWritten 0 := ⟨w_81, w_77, by decide +kernel, by decide⟩
theorem ok_X6_unwritten : xMok M_X6_unwritten 0 := ⟨w_82, w_77, by decide +kernel, by decide⟩
theorem ok_X6_written : xMok M_X6_written 0 := ⟨w_83, w_77, by decide +kernel, by decide⟩
theorem ok_X6_endOfLine : xMok M_X6_endOfLine 1 := ⟨w_84, w_77, by decide +kernel, by decide⟩
theorem ok_X6_worked : xMok M_X6_worked 3 := ⟨w_85, w_77, by decide +kernel, by decide⟩
theorem ok_X7_init : xMok M_X7_init 1 := ⟨w_86, w_87, by decide +kernel, by decide⟩
theorem ok_X7_outcome : xMok M_X7_outcome 0 := ⟨w_88, w_87, by decide +kernel, by decide⟩
theorem ok_X7_firstMove : xMok M_X7_firstMove 0 := ⟨w_89, w_87, by decide +kernel, by decide⟩
theorem ok_X7_play : xMok M_X7_play 2 := ⟨w_90, w_87, by decide +kernel, by decide⟩
theorem ok_X7_choice : xMok M_X7_choice 2 := ⟨w_91, w_87, by decide +kernel, by decide⟩
theorem ok_X7_end : xMok M_X7_end 2 := ⟨w_92, w_87, by decide +kernel, by decide⟩
theorem ok_X8_init : xMok M_X8_init 2 := ⟨w_93, w_94, by decide +kernel, by decide⟩
theorem ok_X8_mayBe : xMok M_X8_mayBe 2 := ⟨w_95, w_94, by decide +kernel, by decide⟩
theorem ok_X8_most : xMok M_X8_most 0 := ⟨w_96, w_94, by decide +kernel, by decide⟩
theorem ok_X8_bestAt : xMok M_X8_bestAt 1 := ⟨w_97, w_94, by decide +kernel, by decide⟩
theorem ok_X8_seek : xMok M_X8_seek 2 := ⟨w_98, w_94, by decide +kernel, by decide⟩
theorem ok_X8_first : xMok M_X8_first 1 := ⟨w_99, w_94, by decide +kernel, by decide⟩
theorem ok_X8_goOn : xMok M_X8_goOn 0 := ⟨w_100, w_94, by decide +kernel, by decide⟩
theorem ok_X8_swap : xMok M_X8_swap 2 := ⟨w_101, w_94, by decide +kernel, by decide⟩
theorem ok_X9_init : xMok M_X9_init 0 := ⟨w_102, w_103, by decide +kernel, by decide⟩
theorem ok_X9_isEmpty : xMok M_X9_isEmpty 0 := ⟨w_104, w_103, by decide +kernel, by decide⟩
theorem ok_X9_isRow : xMok M_X9_isRow 0 := ⟨w_105, w_103, by decide +kernel, by decide⟩
theorem ok_X9_isLike : xMok M_X9_isLike 1 := ⟨w_106, w_103, by decide +kernel, by decide⟩
theorem ok_X9_refusalOfBytes : xMok M_X9_refusalOfBytes 0 := ⟨w_107, w_103, by decide +kernel, by decide⟩
theorem ok_X9_heldBody : xMok M_X9_heldBody 0 := ⟨w_108, w_103, by decide +kernel, by decide⟩
theorem ok_X9_clear : xMok M_X9_clear 0 := ⟨w_109, w_103, by decide +kernel, by decide⟩
theorem ok_X9_holdBody : xMok M_X9_holdBody 1 := ⟨w_110, w_103, by decide +kernel, by decide⟩
theorem ok_X9_holdRow : xMok M_X9_holdRow 2 := ⟨w_111, w_103, by decide +kernel, by decide⟩
theorem ok_X9_hasPlaces : xMok M_X9_hasPlaces 2 := ⟨w_112, w_103, by decide +kernel, by decide⟩
theorem ok_X9_set : xMok M_X9_set 2 := ⟨w_113, w_103, by decide +kernel, by decide⟩
theorem ok_X9_get : xMok M_X9_get 1 := ⟨w_114, w_103, by decide +kernel, by decide⟩
theorem ok_X9_byteAt : xMok M_X9_byteAt 1 := ⟨w_115, w_103, by decide +kernel, by decide⟩
theorem ok_X9_copy : xMok M_X9_copy 4 := ⟨w_116, w_103, by decide +kernel, by decide⟩
theorem ok_X9_cut : xMok M_X9_cut 1 := ⟨w_117, w_103, by decide +kernel, by decide⟩
theorem ok_X10_init : xMok M_X10_init 0 := ⟨w_118, w_119, by decide +kernel, by decide⟩
theorem ok_X10_length : xMok M_X10_length 0 := ⟨w_120, w_119, by decide +kernel, by decide⟩
theorem ok_X10_codeSize : xMok M_X10_codeSize 0 := ⟨w_121, w_119, by decide +kernel, by decide⟩
theorem ok_X10_codeAt : xMok M_X10_codeAt 1 := ⟨w_122, w_119, by decide +kernel, by decide⟩
theorem ok_X10_take : xMok M_X10_take 1 := ⟨w_123, w_119, by decide +kernel, by decide⟩
theorem ok_X10_clear : xMok M_X10_clear 0 := ⟨w_124, w_119, by decide +kernel, by decide⟩
theorem ok_X10_fault : xMok M_X10_fault 0 := ⟨w_125, w_119, by decide +kernel, by decide⟩
theorem ok_X10_next : xMok M_X10_next 0 := ⟨w_126, w_119, by decide +kernel, by decide⟩
theorem ok_X10_emit : xMok M_X10_emit 1 := ⟨w_127, w_119, by decide +kernel, by decide⟩
theorem ok_X10_isLine : xMok M_X10_isLine 0 := ⟨w_128, w_119, by decide +kernel, by decide⟩
theorem ok_X10_levelOf : xMok M_X10_levelOf 1 := ⟨w_129, w_119, by decide +kernel, by decide⟩
theorem ok_X10_isExpression : xMok M_X10_isExpression 2 := ⟨w_130, w_119, by decide +kernel, by decide⟩
theorem ok_X10_isOperand : xMok M_X10_isOperand 1 := ⟨w_131, w_119, by decide +kernel, by decide⟩
theorem ok_X10_isEnclosed : xMok M_X10_isEnclosed 1 := ⟨w_132, w_119, by decide +kernel, by decide⟩
theorem ok_X10_isSigned : xMok M_X10_isSigned 2 := ⟨w_133, w_119, by decide +kernel, by decide⟩
theorem ok_X10_isDigit : xMok M_X10_isDigit 1 := ⟨w_134, w_119, by decide +kernel, by decide⟩
theorem ok_X10_isNumber : xMok M_X10_isNumber 0 := ⟨w_135, w_119, by decide +kernel, by decide⟩
theorem ok_X11_init : xMok M_X11_init 0 := ⟨w_136, w_137, by decide +kernel, by decide⟩
theorem ok_X11_bill : xMok M_X11_bill 1 := ⟨w_138, w_137, by decide +kernel, by decide⟩
theorem ok_X11_bills : xMok M_X11_bills 3 := ⟨w_139, w_137, by decide +kernel, by decide⟩
theorem ok_X11_senator : xMok M_X11_senator 2 := ⟨w_140, w_137, by decide +kernel, by decide⟩
theorem ok_X11_mend : xMok M_X11_mend 3 := ⟨w_141, w_137, by decide +kernel, by decide⟩
theorem ok_X11_of : xMok M_X11_of 2 := ⟨w_142, w_137, by decide +kernel, by decide⟩
theorem ok_X11_feed : xMok M_X11_feed 1 := ⟨w_143, w_137, by decide +kernel, by decide⟩
theorem ok_X11_law : xMok M_X11_law 0 := ⟨w_144, w_137, by decide +kernel, by decide⟩
theorem ok_X11_cross : xMok M_X11_cross 1 := ⟨w_145, w_137, by decide +kernel, by decide⟩
theorem ok_X11_reader : xMok M_X11_reader 1 := ⟨w_146, w_137, by decide +kernel, by decide⟩
theorem ok_X11_passes : xMok M_X11_passes 3 := ⟨w_147, w_137, by decide +kernel, by decide⟩
theorem ok_X11_quiet : xMok M_X11_quiet 4 := ⟨w_148, w_137, by decide +kernel, by decide⟩
theorem ok_X11_mean : xMok M_X11_mean 3 := ⟨w_149, w_137, by decide +kernel, by decide⟩
theorem ok_X11_order : xMok M_X11_order 3 := ⟨w_150, w_137, by decide +kernel, by decide⟩
theorem ok_X11_orderWorth : xMok M_X11_orderWorth 3 := ⟨w_151, w_137, by decide +kernel, by decide⟩
theorem ok_X11_pack : xMok M_X11_pack 2 := ⟨w_152, w_137, by decide +kernel, by decide⟩
theorem ok_X11_causes : xMok M_X11_causes 2 := ⟨w_153, w_137, by decide +kernel, by decide⟩
theorem ok_X11_cause : xMok M_X11_cause 3 := ⟨w_154, w_137, by decide +kernel, by decide⟩
theorem ok_X11_apart : xMok M_X11_apart 2 := ⟨w_155, w_137, by decide +kernel, by decide⟩
theorem ok_X11_power : xMok M_X11_power 2 := ⟨w_156, w_137, by decide +kernel, by decide⟩
theorem ok_X11_leagues : xMok M_X11_leagues 1 := ⟨w_157, w_137, by decide +kernel, by decide⟩
theorem ok_X11_byTurns : xMok M_X11_byTurns 3 := ⟨w_158, w_137, by decide +kernel, by decide⟩
theorem ok_X11_drawn : xMok M_X11_drawn 4 := ⟨w_159, w_137, by decide +kernel, by decide⟩
theorem ok_X11_read : xMok M_X11_read 1 := ⟨w_160, w_137, by decide +kernel, by decide⟩
theorem ok_X11_fed : xMok M_X11_fed 0 := ⟨w_161, w_137, by decide +kernel, by decide⟩
theorem ok_X11_born : xMok M_X11_born 2 := ⟨w_162, w_137, by decide +kernel, by decide⟩
theorem ok_X11_pass : xMok M_X11_pass 1 := ⟨w_163, w_137, by decide +kernel, by decide⟩
theorem ok_X11_led : xMok M_X11_led 1 := ⟨w_164, w_137, by decide +kernel, by decide⟩
theorem ok_X11_image : xMok M_X11_image 0 := ⟨w_165, w_137, by decide +kernel, by decide⟩
theorem ok_X11_back : xMok M_X11_back 0 := ⟨w_166, w_137, by decide +kernel, by decide⟩
theorem ok_X11_undo : xMok M_X11_undo 0 := ⟨w_167, w_137, by decide +kernel, by decide⟩
theorem ok_X11_redo : xMok M_X11_redo 0 := ⟨w_168, w_137, by decide +kernel, by decide⟩
theorem ok_X11_body : xMok M_X11_body 1 := ⟨w_169, w_137, by decide +kernel, by decide⟩
theorem ok_X11_act : xMok M_X11_act 3 := ⟨w_170, w_137, by decide +kernel, by decide⟩
theorem ok_X11_trace : xMok M_X11_trace 1 := ⟨w_171, w_137, by decide +kernel, by decide⟩
theorem ok_X11_keep : xMok M_X11_keep 2 := ⟨w_172, w_137, by decide +kernel, by decide⟩
theorem ok_X11_row : xMok M_X11_row 3 := ⟨w_173, w_137, by decide +kernel, by decide⟩
theorem ok_X11_put : xMok M_X11_put 3 := ⟨w_174, w_137, by decide +kernel, by decide⟩
theorem ok_X11_element : xMok M_X11_element 2 := ⟨w_175, w_137, by decide +kernel, by decide⟩
theorem ok_X11_shift : xMok M_X11_shift 5 := ⟨w_176, w_137, by decide +kernel, by decide⟩
theorem ok_X11_taken : xMok M_X11_taken 2 := ⟨w_177, w_137, by decide +kernel, by decide⟩
theorem ok_X11_count : xMok M_X11_count 1 := ⟨w_178, w_137, by decide +kernel, by decide⟩
theorem ok_X11_isShelf : xMok M_X11_isShelf 1 := ⟨w_179, w_137, by decide +kernel, by decide⟩
theorem ok_X11_isPart : xMok M_X11_isPart 1 := ⟨w_180, w_137, by decide +kernel, by decide⟩
theorem ok_X11_isCount : xMok M_X11_isCount 1 := ⟨w_181, w_137, by decide +kernel, by decide⟩
theorem ok_X11_takesAgenda : xMok M_X11_takesAgenda 1 := ⟨w_182, w_137, by decide +kernel, by decide⟩
theorem ok_X11_refusalOfPlace : xMok M_X11_refusalOfPlace 2 := ⟨w_183, w_137, by decide +kernel, by decide⟩
theorem ok_X11_billComes : xMok M_X11_billComes 2 := ⟨w_184, w_137, by decide +kernel, by decide⟩
theorem ok_X11_isBetterPack : xMok M_X11_isBetterPack 2 := ⟨w_185, w_137, by decide +kernel, by decide⟩
theorem ok_X11_twelves : xMok M_X11_twelves 1 := ⟨w_186, w_137, by decide +kernel, by decide⟩
theorem ok_X11_partOf : xMok M_X11_partOf 3 := ⟨w_187, w_137, by decide +kernel, by decide⟩
theorem ok_X11_commonOf : xMok M_X11_commonOf 2 := ⟨w_188, w_137, by decide +kernel, by decide⟩
theorem ok_X12_init : xMok M_X12_init 0 := ⟨w_189, w_190, by decide +kernel, by decide⟩
theorem ok_X12_in : xMok M_X12_in 3 := ⟨w_191, w_190, by decide +kernel, by decide⟩
theorem ok_X12_has : xMok M_X12_has 2 := ⟨w_192, w_190, by decide +kernel, by decide⟩
theorem ok_X12_bitsOf : xMok M_X12_bitsOf 1 := ⟨w_193, w_190, by decide +kernel, by decide⟩
theorem ok_X12_isBill : xMok M_X12_isBill 1 := ⟨w_194, w_190, by decide +kernel, by decide⟩
theorem ok_X12_isSenator : xMok M_X12_isSenator 1 := ⟨w_195, w_190, by decide +kernel, by decide⟩
theorem ok_X12_areTwo : xMok M_X12_areTwo 1 := ⟨w_196, w_190, by decide +kernel, by decide⟩
theorem ok_X12_addBill : xMok M_X12_addBill 3 := ⟨w_197, w_190, by decide +kernel, by decide⟩
theorem ok_X12_bill : xMok M_X12_bill 1 := ⟨w_198, w_190, by decide +kernel, by decide⟩
theorem ok_X12_bills : xMok M_X12_bills 3 := ⟨w_199, w_190, by decide +kernel, by decide⟩
theorem ok_X12_senator : xMok M_X12_senator 2 := ⟨w_200, w_190, by decide +kernel, by decide⟩
theorem ok_X12_valueAt : xMok M_X12_valueAt 2 := ⟨w_201, w_190, by decide +kernel, by decide⟩
theorem ok_X12_lays : xMok M_X12_lays 3 := ⟨w_202, w_190, by decide +kernel, by decide⟩
theorem ok_X12_changes : xMok M_X12_changes 3 := ⟨w_203, w_190, by decide +kernel, by decide⟩
theorem ok_X12_undo : xMok M_X12_undo 0 := ⟨w_204, w_190, by decide +kernel, by decide⟩
theorem ok_X12_redo : xMok M_X12_redo 0 := ⟨w_205, w_190, by decide +kernel, by decide⟩
theorem ok_X12_isPlace : xMok M_X12_isPlace 2 := ⟨w_206, w_190, by decide +kernel, by decide⟩
theorem ok_X12_mayHave : xMok M_X12_mayHave 2 := ⟨w_207, w_190, by decide +kernel, by decide⟩
theorem ok_X12_mend : xMok M_X12_mend 3 := ⟨w_208, w_190, by decide +kernel, by decide⟩
theorem ok_X12_of : xMok M_X12_of 2 := ⟨w_209, w_190, by decide +kernel, by decide⟩
theorem ok_X12_feed : xMok M_X12_feed 1 := ⟨w_210, w_190, by decide +kernel, by decide⟩
theorem ok_X12_look : xMok M_X12_look 0 := ⟨w_211, w_190, by decide +kernel, by decide⟩
theorem ok_X12_wrong : xMok M_X12_wrong 0 := ⟨w_212, w_190, by decide +kernel, by decide⟩
theorem ok_X12_addStep : xMok M_X12_addStep 2 := ⟨w_213, w_190, by decide +kernel, by decide⟩
theorem ok_X12_nameOf : xMok M_X12_nameOf 1 := ⟨w_214, w_190, by decide +kernel, by decide⟩
theorem ok_X12_opens : xMok M_X12_opens 0 := ⟨w_215, w_190, by decide +kernel, by decide⟩
theorem ok_X12_figure : xMok M_X12_figure 0 := ⟨w_216, w_190, by decide +kernel, by decide⟩
theorem ok_X12_operand : xMok M_X12_operand 0 := ⟨w_217, w_190, by decide +kernel, by decide⟩
theorem ok_X12_product : xMok M_X12_product 0 := ⟨w_218, w_190, by decide +kernel, by decide⟩
theorem ok_X12_sum : xMok M_X12_sum 0 := ⟨w_219, w_190, by decide +kernel, by decide⟩
theorem ok_X12_compared : xMok M_X12_compared 0 := ⟨w_220, w_190, by decide +kernel, by decide⟩
theorem ok_X12_both : xMok M_X12_both 0 := ⟨w_221, w_190, by decide +kernel, by decide⟩
theorem ok_X12_either : xMok M_X12_either 0 := ⟨w_222, w_190, by decide +kernel, by decide⟩
theorem ok_X12_line : xMok M_X12_line 0 := ⟨w_223, w_190, by decide +kernel, by decide⟩
theorem ok_X12_readText : xMok M_X12_readText 1 := ⟨w_224, w_190, by decide +kernel, by decide⟩
theorem ok_X12_twoOf : xMok M_X12_twoOf 3 := ⟨w_225, w_190, by decide +kernel, by decide⟩
theorem ok_X12_worked : xMok M_X12_worked 3 := ⟨w_226, w_190, by decide +kernel, by decide⟩
theorem ok_X12_gives : xMok M_X12_gives 1 := ⟨w_227, w_190, by decide +kernel, by decide⟩
theorem ok_X12_law : xMok M_X12_law 0 := ⟨w_228, w_190, by decide +kernel, by decide⟩
theorem ok_X12_criesBy : xMok M_X12_criesBy 5 := ⟨w_229, w_190, by decide +kernel, by decide⟩
theorem ok_X12_sinceWith : xMok M_X12_sinceWith 2 := ⟨w_230, w_190, by decide +kernel, by decide⟩
theorem ok_X12_nextBy : xMok M_X12_nextBy 2 := ⟨w_231, w_190, by decide +kernel, by decide⟩
theorem ok_X12_cross : xMok M_X12_cross 1 := ⟨w_232, w_190, by decide +kernel, by decide⟩
theorem ok_X12_reader : xMok M_X12_reader 1 := ⟨w_233, w_190, by decide +kernel, by decide⟩
theorem ok_X12_rowFault : xMok M_X12_rowFault 1 := ⟨w_234, w_190, by decide +kernel, by decide⟩
theorem ok_X12_at : xMok M_X12_at 2 := ⟨w_235, w_190, by decide +kernel, by decide⟩
theorem ok_X12_layAgenda : xMok M_X12_layAgenda 1 := ⟨w_236, w_190, by decide +kernel, by decide⟩
theorem ok_X12_layWeights : xMok M_X12_layWeights 0 := ⟨w_237, w_190, by decide +kernel, by decide⟩
theorem ok_X12_goReading : xMok M_X12_goReading 2 := ⟨w_238, w_190, by decide +kernel, by decide⟩
theorem ok_X12_lowest : xMok M_X12_lowest 3 := ⟨w_239, w_190, by decide +kernel, by decide⟩
theorem ok_X12_mayAsk : xMok M_X12_mayAsk 2 := ⟨w_240, w_190, by decide +kernel, by decide⟩
theorem ok_X12_passes : xMok M_X12_passes 3 := ⟨w_241, w_190, by decide +kernel, by decide⟩
theorem ok_X12_firstOf : xMok M_X12_firstOf 1 := ⟨w_242, w_190, by decide +kernel, by decide⟩
theorem ok_X12_allWeight : xMok M_X12_allWeight 0 := ⟨w_243, w_190, by decide +kernel, by decide⟩
theorem ok_X12_quiet : xMok M_X12_quiet 4 := ⟨w_244, w_190, by decide +kernel, by decide⟩
theorem ok_X12_goMean : xMok M_X12_goMean 1 := ⟨w_245, w_190, by decide +kernel, by decide⟩
theorem ok_X12_mean : xMok M_X12_mean 3 := ⟨w_246, w_190, by decide +kernel, by decide⟩
theorem ok_X12_goOrder : xMok M_X12_goOrder 3 := ⟨w_247, w_190, by decide +kernel, by decide⟩
theorem ok_X12_mayOrder : xMok M_X12_mayOrder 2 := ⟨w_248, w_190, by decide +kernel, by decide⟩
theorem ok_X12_findOrder : xMok M_X12_findOrder 2 := ⟨w_249, w_190, by decide +kernel, by decide⟩
theorem ok_X12_order : xMok M_X12_order 3 := ⟨w_250, w_190, by decide +kernel, by decide⟩
theorem ok_X12_orderWorth : xMok M_X12_orderWorth 3 := ⟨w_251, w_190, by decide +kernel, by decide⟩
theorem ok_X12_lengthsOf : xMok M_X12_lengthsOf 1 := ⟨w_252, w_190, by decide +kernel, by decide⟩
theorem ok_X12_worthsOf : xMok M_X12_worthsOf 1 := ⟨w_253, w_190, by decide +kernel, by decide⟩
theorem ok_X12_pack : xMok M_X12_pack 2 := ⟨w_254, w_190, by decide +kernel, by decide⟩
theorem ok_X12_isThree : xMok M_X12_isThree 2 := ⟨w_255, w_190, by decide +kernel, by decide⟩
theorem ok_X12_chanceBy : xMok M_X12_chanceBy 3 := ⟨w_256, w_190, by decide +kernel, by decide⟩
theorem ok_X12_layChances : xMok M_X12_layChances 2 := ⟨w_257, w_190, by decide +kernel, by decide⟩
theorem ok_X12_likeliest : xMok M_X12_likeliest 0 := ⟨w_258, w_190, by decide +kernel, by decide⟩
theorem ok_X12_causes : xMok M_X12_causes 2 := ⟨w_259, w_190, by decide +kernel, by decide⟩
theorem ok_X12_cause : xMok M_X12_cause 3 := ⟨w_260, w_190, by decide +kernel, by decide⟩
theorem ok_X12_differBy : xMok M_X12_differBy 3 := ⟨w_261, w_190, by decide +kernel, by decide⟩
theorem ok_X12_apart : xMok M_X12_apart 2 := ⟨w_262, w_190, by decide +kernel, by decide⟩
theorem ok_X12_power : xMok M_X12_power 2 := ⟨w_263, w_190, by decide +kernel, by decide⟩
theorem ok_X12_senatorsOf : xMok M_X12_senatorsOf 1 := ⟨w_264, w_190, by decide +kernel, by decide⟩
theorem ok_X12_leagues : xMok M_X12_leagues 1 := ⟨w_265, w_190, by decide +kernel, by decide⟩
theorem ok_X12_windBy : xMok M_X12_windBy 2 := ⟨w_266, w_190, by decide +kernel, by decide⟩
theorem ok_X12_bestOf : xMok M_X12_bestOf 4 := ⟨w_267, w_190, by decide +kernel, by decide⟩
theorem ok_X12_byTurns : xMok M_X12_byTurns 3 := ⟨w_268, w_190, by decide +kernel, by decide⟩
theorem ok_X12_drawn : xMok M_X12_drawn 4 := ⟨w_269, w_190, by decide +kernel, by decide⟩
theorem ok_X12_read : xMok M_X12_read 1 := ⟨w_270, w_190, by decide +kernel, by decide⟩
theorem ok_X12_fed : xMok M_X12_fed 0 := ⟨w_271, w_190, by decide +kernel, by decide⟩
theorem ok_X12_born : xMok M_X12_born 2 := ⟨w_272, w_190, by decide +kernel, by decide⟩
theorem ok_X12_pass : xMok M_X12_pass 1 := ⟨w_273, w_190, by decide +kernel, by decide⟩
theorem ok_X12_led : xMok M_X12_led 1 := ⟨w_274, w_190, by decide +kernel, by decide⟩
theorem ok_X12_image : xMok M_X12_image 0 := ⟨w_275, w_190, by decide +kernel, by decide⟩
theorem ok_X12_back : xMok M_X12_back 0 := ⟨w_276, w_190, by decide +kernel, by decide⟩
theorem ok_X12_isBody : xMok M_X12_isBody 1 := ⟨w_277, w_190, by decide +kernel, by decide⟩
theorem ok_X12_ran : xMok M_X12_ran 1 := ⟨w_278, w_190, by decide +kernel, by decide⟩
theorem ok_X12_trace : xMok M_X12_trace 1 := ⟨w_279, w_190, by decide +kernel, by decide⟩
theorem ok_X12_body : xMok M_X12_body 1 := ⟨w_280, w_190, by decide +kernel, by decide⟩
theorem ok_X12_isUnder : xMok M_X12_isUnder 2 := ⟨w_281, w_190, by decide +kernel, by decide⟩
theorem ok_X12_plainReads : xMok M_X12_plainReads 2 := ⟨w_282, w_190, by decide +kernel, by decide⟩
theorem ok_X12_twinReads : xMok M_X12_twinReads 2 := ⟨w_283, w_190, by decide +kernel, by decide⟩
theorem ok_X12_reading : xMok M_X12_reading 2 := ⟨w_284, w_190, by decide +kernel, by decide⟩
theorem ok_X12_plainCries : xMok M_X12_plainCries 2 := ⟨w_285, w_190, by decide +kernel, by decide⟩
theorem ok_X12_cryCries : xMok M_X12_cryCries 2 := ⟨w_286, w_190, by decide +kernel, by decide⟩
theorem ok_X12_crying : xMok M_X12_crying 2 := ⟨w_287, w_190, by decide +kernel, by decide⟩
theorem ok_X12_plainHushes : xMok M_X12_plainHushes 2 := ⟨w_288, w_190, by decide +kernel, by decide⟩
theorem ok_X12_nurseHushes : xMok M_X12_nurseHushes 2 := ⟨w_289, w_190, by decide +kernel, by decide⟩
theorem ok_X12_hushing : xMok M_X12_hushing 2 := ⟨w_290, w_190, by decide +kernel, by decide⟩
theorem ok_X12_plainTells : xMok M_X12_plainTells 2 := ⟨w_291, w_190, by decide +kernel, by decide⟩
theorem ok_X12_telling : xMok M_X12_telling 2 := ⟨w_292, w_190, by decide +kernel, by decide⟩
theorem ok_X12_act : xMok M_X12_act 3 := ⟨w_293, w_190, by decide +kernel, by decide⟩
theorem ok_X12_count : xMok M_X12_count 1 := ⟨w_294, w_190, by decide +kernel, by decide⟩
theorem ok_X12_isShelf : xMok M_X12_isShelf 1 := ⟨w_295, w_190, by decide +kernel, by decide⟩
theorem ok_X12_keep : xMok M_X12_keep 2 := ⟨w_296, w_190, by decide +kernel, by decide⟩
theorem ok_X12_row : xMok M_X12_row 3 := ⟨w_297, w_190, by decide +kernel, by decide⟩
theorem ok_X12_whyNoPlace : xMok M_X12_whyNoPlace 2 := ⟨w_298, w_190, by decide +kernel, by decide⟩
theorem ok_X12_put : xMok M_X12_put 3 := ⟨w_299, w_190, by decide +kernel, by decide⟩
theorem ok_X12_element : xMok M_X12_element 2 := ⟨w_300, w_190, by decide +kernel, by decide⟩
theorem ok_X12_shift : xMok M_X12_shift 5 := ⟨w_301, w_190, by decide +kernel, by decide⟩
theorem ok_X12_taken : xMok M_X12_taken 2 := ⟨w_302, w_190, by decide +kernel, by decide⟩
theorem ok_J6_bitCount_0f7a4 : xMok M_J6_bitCount_0f7a4 1 := ⟨w_303, w_304, by decide +kernel, by decide⟩
theorem ok_J9_abs_0f7a4 : xMok M_J9_abs_0f7a4 1 := ⟨w_305, w_306, by decide +kernel, by decide⟩
theorem ok_J9_max_7cf53 : xMok M_J9_max_7cf53 2 := ⟨w_307, w_306, by decide +kernel, by decide⟩
theorem ok_J9_max_f86c9 : xMok M_J9_max_f86c9 2 := ⟨w_308, w_306, by decide +kernel, by decide⟩
theorem ok_J9_min_7cf53 : xMok M_J9_min_7cf53 2 := ⟨w_309, w_306, by decide +kernel, by decide⟩
theorem ok_J7_fill_d0a16 : xMok M_J7_fill_d0a16 2 := ⟨w_310, w_311, by decide +kernel, by decide⟩
