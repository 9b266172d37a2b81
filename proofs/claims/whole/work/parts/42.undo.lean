/-! ===== undo, redo ===== -/
section
variable {I : xI} {J : xJ}
theorem s_goBack_0 (h : ¬ 0 < I 20 5) : SpecF 2 M_X2_goBack [.ref 20] xG1 I J (some (.int 0)) I J := by
  refine specF_of (L := [some (.ref 20)]) (by decide) (Nat.le_of_ble_eq_true rfl) rfl ?_
  refine iX2_goBack_0 (iX2_goBack_1 (iX2_goBack_4 (fun h4 => absurd h4 (h)) (fun h4 => ?_)))
  refine iX2_goBack_7 (iX2_goBack_8 ?_)
  exact ⟨rfl, rfl, rfl, rfl⟩
theorem s_goOn_0 (h : ¬ I 20 5 < I 20 6) : SpecF 2 M_X2_goOn [.ref 20] xG1 I J (some (.int 0)) I J := by
  refine specF_of (L := [some (.ref 20)]) (by decide) (Nat.le_of_ble_eq_true rfl) rfl ?_
  refine iX2_goOn_0 (iX2_goOn_1 (iX2_goOn_4 (iX2_goOn_5 (iX2_goOn_8 (fun h8 => absurd h8 (h)) (fun h8 => ?_)))))
  refine iX2_goOn_11 (iX2_goOn_12 ?_)
  exact ⟨rfl, rfl, rfl, rfl⟩
theorem s_goBack_1 {m : Nat} (hm : m < 40) (em : I 20 5 = nI (m + 1)) (hhas : f_has I (I 21 m) (I 22 m) = 1) (hB : I 1 2 ≤ 10) (hS : I 1 3 ≤ 6) : SpecF 2 M_X2_goBack [.ref 20] xG1 I J (some (.int 1)) (xu (xu I 20 5 (nI m)) (7 + (I 22 m).toNatClampNeg) (I 21 m).toNatClampNeg (I 23 m)) J := by
  refine specF_of (L := [some (.ref 20)]) (by decide) (Nat.le_of_ble_eq_true rfl) rfl ?_
  have n4 : 0 < I 20 5 := by rw [em]; exact nI_lt (a := 0) (by omega) (by omega)
  have e16 : I 20 5 - 1 = nI m := by rw [em]; exact nI_pred m
  have t : (xu I 20 5 (nI m) 20 5).toNatClampNeg = m := nI_clamp (by omega)
  have hv : vp_in (nI m) 40 := vp_in_nI hm (by omega)
  have sp : ∀ J, SpecF 1 M_X5_set [.ref 1, .int (I 21 m), .int (I 22 m), .int (I 23 m)] xG1 (xu I 20 5 (nI m)) J none (xu (xu I 20 5 (nI m)) (7 + (I 22 m).toNatClampNeg) (I 21 m).toNatClampNeg (I 23 m)) J := fun J => s_set1 hhas hB hS
  refine iX2_goBack_0 (iX2_goBack_1 (iX2_goBack_4 (fun h4 => ?_) (fun h4 => absurd (n4) (by first | exact h4 | exact fun q => q h4))))
  refine iX2_goBack_9 (iX2_goBack_10 (iX2_goBack_11 (iX2_goBack_14 (iX2_goBack_15 (iX2_goBack_16 ?_)))))
  rw [e16]
  refine iX2_goBack_19 (iX2_goBack_20 (iX2_goBack_23 (iX2_goBack_24 (iX2_goBack_27 (iX2_goBack_28 (iX2_goBack_31 hv (iX2_goBack_32 (iX2_goBack_33 (iX2_goBack_36 (iX2_goBack_37 (iX2_goBack_40 hv (iX2_goBack_41 (iX2_goBack_42 (iX2_goBack_45 (iX2_goBack_46 (iX2_goBack_49 hv ?_))))))))))))))))
  rw [t]
  refine iX2_goBack_50 (sp _) (iX2_goBack_53 (iX2_goBack_54 ?_))
  exact ⟨rfl, rfl, rfl, rfl⟩
theorem s_goOn_1 {m : Nat} (hm : m < 40) (em : I 20 5 = nI m) (hl : I 20 5 < I 20 6) (hhas : f_has I (I 21 m) (I 22 m) = 1) (hB : I 1 2 ≤ 10) (hS : I 1 3 ≤ 6) : SpecF 2 M_X2_goOn [.ref 20] xG1 I J (some (.int 1)) (xu (xu I (7 + (I 22 m).toNatClampNeg) (I 21 m).toNatClampNeg (I 24 m)) 20 5 (nI (m + 1))) J := by
  refine specF_of (L := [some (.ref 20)]) (by decide) (Nat.le_of_ble_eq_true rfl) rfl ?_
  have t : (I 20 5).toNatClampNeg = m := by rw [em]; exact nI_clamp (by omega)
  have hv : vp_in (I 20 5) 40 := by rw [em]; exact vp_in_nI hm (by omega)
  have sp : ∀ J, SpecF 1 M_X5_set [.ref 1, .int (I 21 m), .int (I 22 m), .int (I 24 m)] xG1 I J none (xu I (7 + (I 22 m).toNatClampNeg) (I 21 m).toNatClampNeg (I 24 m)) J := fun J => s_set1 hhas hB hS
  have hc := has_cases hhas hB hS
  have hw10 : (I 22 m).toNatClampNeg < 10 := clamp_lt' (N := 10) (by decide) (by grind) (by grind)
  have e54 : xu I (7 + (I 22 m).toNatClampNeg) (I 21 m).toNatClampNeg (I 24 m) 20 5 + 1 = nI (m + 1) := by
    rw [xu_row (by omega), em]
    exact nI_1 m
  refine iX2_goOn_0 (iX2_goOn_1 (iX2_goOn_4 (iX2_goOn_5 (iX2_goOn_8 (fun h8 => ?_) (fun h8 => absurd (hl) (by first | exact h8 | exact fun q => q h8))))))
  refine iX2_goOn_13 (iX2_goOn_14 (iX2_goOn_17 (iX2_goOn_18 (iX2_goOn_21 (iX2_goOn_22 (iX2_goOn_25 hv (iX2_goOn_26 (iX2_goOn_27 (iX2_goOn_30 (iX2_goOn_31 (iX2_goOn_34 hv (iX2_goOn_35 (iX2_goOn_36 (iX2_goOn_39 (iX2_goOn_40 (iX2_goOn_43 hv ?_))))))))))))))))
  rw [t]
  refine iX2_goOn_44 (sp _) (iX2_goOn_47 (iX2_goOn_48 (iX2_goOn_49 (iX2_goOn_52 (iX2_goOn_53 (iX2_goOn_54 ?_))))))
  rw [e54]
  refine iX2_goOn_57 (iX2_goOn_58 ?_)
  exact ⟨rfl, rfl, rfl, rfl⟩
theorem s_behind_of {c : Int32} (h : I 20 5 = c) : SpecF 0 M_X2_behind [.ref 20] xG1 I J (some (.int c)) I J := by
  have := s_X2_behind (I := I) (J := J)
  rw [h] at this
  exact this
theorem s_ahead_of {c : Int32} (h : I 20 6 - I 20 5 = c) : SpecF 0 M_X2_ahead [.ref 20] xG1 I J (some (.int c)) I J := by
  have := s_X2_ahead (I := I) (J := J)
  rw [h] at this
  exact this
end
theorem pp_undo : PP_undo Inv := by
  intro I J h
  obtain ⟨hh, hb, hse, hin, hch, hta, hle, him, hcl, hsh, hlw⟩ := id h
  obtain ⟨a1, a2, a3, hB, a5, hS⟩ := id hh
  obtain ⟨ch1, ch2, ch3, ch4, ch5, ch6⟩ := id hch
  by_cases h0 : I 20 5 = 0
  · have n4 : ¬ 0 < I 20 5 := by rw [h0]; decide
    refine pair_of (v := -5) (v' := -5) (I1 := I) (I2 := I) (J1 := J) (J2 := J) ?_ ?_ rfl h
    · refine specF_of (L := [some (.ref 0)]) (by decide) (Nat.le_of_ble_eq_true rfl) rfl ?_
      refine iX11_undo_0 (iX11_undo_1 (iX11_undo_4 (s_goBack_0 n4) (iX11_undo_7 (fun h7 => ?_) (fun h7 => absurd (rfl) (by first | exact h7 | exact fun q => q h7)))))
      refine iX11_undo_20 (iX11_undo_22 ?_)
      first | exact ⟨rfl, rfl, rfl, rfl⟩ | (exfalso; (try simp only [f_in] at *); grind)
    · refine specF_of (L := [some (.ref 57)]) (by decide) (Nat.le_of_ble_eq_true rfl) rfl ?_
      have e4 : ¬ ¬ I 57 10 = 0 := by rw [ch1]; exact fun q => q h0
      refine iX12_undo_0 (iX12_undo_1 (iX12_undo_4 (fun h4 => absurd h4 (e4)) (fun h4 => ?_)))
      refine iX12_undo_7 (iX12_undo_9 ?_)
      first | exact ⟨rfl, rfl, rfl, rfl⟩ | (exfalso; (try simp only [f_in] at *); grind)
  obtain ⟨m1, hm, em⟩ := nI_of2 (x := I 20 5) (M := 40) (n := 40) (by decide) (by grind) (by grind)
  have hm1 : m1 ≠ 0 := fun q => h0 (by rw [em, q]; rfl)
  obtain ⟨m, rfl⟩ : ∃ m, m1 = m + 1 := ⟨m1 - 1, by omega⟩
  have ep : nI (m + 1) - 1 = nI m := nI_pred m
  have elt : nI m < nI (m + 1) := nI_lt (by omega) (by omega)
  have hml : nI m < I 20 6 := by grind
  obtain ⟨d1, d2, d3, d4, d5⟩ := ch6 m (by omega) hml
  have hlay := inv_lay h d5.1 d5.2.1
  have hmr := @mrow_in (I 22 m)
  have hc := has_cases d5.1 hB hS
  have hw10 : (I 22 m).toNatClampNeg < 10 := clamp_lt' (N := 10) (by decide) (by grind) (by grind)
  have emM : I 57 10 = nI (m + 1) := by rw [ch1, em]
  have e20 : xu (xu I 20 5 (nI m)) (7 + (I 22 m).toNatClampNeg) (I 21 m).toNatClampNeg (I 23 m) 20 5 = nI m := by
    rw [xu_row (by omega), xu_eq]
  let C := xu (xu I 20 5 (nI m)) (7 + (I 22 m).toNatClampNeg) (I 21 m).toNatClampNeg (I 23 m)
  let D := xu (xu C 57 10 (nI m)) 57 11 (I 57 11 + 1)
  have c57 : ∀ j, C 57 j = I 57 j := fun j => by simp only [C]; rw [xu_row (by omega), xu_row (by omega)]
  have c65 : C 65 m = I 22 m := by simp only [C]; rw [xu_row (by omega), xu_row (by omega), d1]
  have c66 : C 66 m = I 21 m := by simp only [C]; rw [xu_row (by omega), xu_row (by omega), d2]
  have c67 : C 67 m = I 23 m := by simp only [C]; rw [xu_row (by omega), xu_row (by omega), d3]
  have cB : C 1 2 = I 1 2 := by simp only [C]; rw [xu_row (by omega), xu_row (by omega)]
  have cS : C 1 3 = I 1 3 := by simp only [C]; rw [xu_row (by omega), xu_row (by omega)]
  have n4 : ¬ C 57 10 = 0 := by rw [c57, emM]; exact nI_ne0 (by omega) (by omega)
  have e17 : C 57 10 - 1 = nI m := by rw [c57, emM]; exact nI_pred m
  have hDh : f_has D (I 21 m) (I 22 m) = 1 := by
    have := d5.1
    unfold f_has at this ⊢
    rw [show D 1 2 = I 1 2 from cB, show D 1 3 = I 1 3 from cS]
    exact this
  have sp : ∀ J, SpecF 0 M_X12_lays [.ref 57, .int (I 22 m), .int (I 21 m), .int (I 23 m)] xG1 D J none (xu D (mrow (I 22 m)) (mcol (I 22 m) (I 21 m)) (I 23 m)) J := fun J => s_X12_lays _ _ _ hDh (by rw [show D 1 2 = I 1 2 from cB]; exact hB) (by rw [show D 1 3 = I 1 3 from cS]; exact hS)
  have hv : vp_in (nI m) 40 := vp_in_nI (by omega) (by omega)
  have t : (nI m).toNatClampNeg = m := nI_clamp (by omega)
  have eR : xu D (mrow (I 22 m)) (mcol (I 22 m) (I 21 m)) (I 23 m) 57 10 = nI m := by rw [xu_row (by omega)]; rfl
  refine pair_of (v := nI m) (v' := nI m) (I1 := C) (I2 := xu D (mrow (I 22 m)) (mcol (I 22 m) (I 21 m)) (I 23 m)) (J1 := J) (J2 := J) ?_ ?_ rfl ?_
  · refine specF_of (L := [some (.ref 0)]) (by decide) (Nat.le_of_ble_eq_true rfl) rfl ?_
    refine iX11_undo_0 (iX11_undo_1 (iX11_undo_4 (s_goBack_1 (by omega) em d5.1 hB hS) (iX11_undo_7 (fun h7 => absurd h7 (by decide)) (fun h7 => ?_))))
    refine iX11_undo_10 (iX11_undo_11 (iX11_undo_14 (s_behind_of e20) (iX11_undo_17 (iX11_undo_22 ?_))))
    first | exact ⟨rfl, rfl, rfl, rfl⟩ | (exfalso; (try simp only [f_in] at *); grind)
  · refine specF_of (L := [some (.ref 57)]) (by decide) (Nat.le_of_ble_eq_true rfl) rfl ?_
    refine iX12_undo_0 (iX12_undo_1 (iX12_undo_4 (fun h4 => ?_) (fun h4 => absurd (n4) (by first | exact h4 | exact fun q => q h4))))
    refine iX12_undo_10 (iX12_undo_11 (iX12_undo_12 (iX12_undo_15 (iX12_undo_16 (iX12_undo_17 ?_)))))
    rw [e17]
    refine iX12_undo_20 (iX12_undo_21 (iX12_undo_22 (iX12_undo_25 (iX12_undo_26 (iX12_undo_27 ?_)))))
    show WP _ _ _ _ _ 30 _ _ _ (xu (xu C 57 10 (nI m)) 57 11 (C 57 11 + 1)) _
    rw [c57]
    refine iX12_undo_30 (iX12_undo_31 (iX12_undo_32 (iX12_undo_35 (iX12_undo_36 (iX12_undo_39 hv (iX12_undo_40 (iX12_undo_41 (iX12_undo_44 (iX12_undo_45 (iX12_undo_48 hv (iX12_undo_49 (iX12_undo_50 (iX12_undo_53 (iX12_undo_54 (iX12_undo_57 hv ?_)))))))))))))))
    show WP _ _ _ _ _ 58 _ [.int (C 67 (nI m).toNatClampNeg), .int (C 66 (nI m).toNatClampNeg), .int (C 65 (nI m).toNatClampNeg), .ref 57] _ D _
    rw [t, c65, c66, c67]
    refine iX12_undo_58 (sp _) (iX12_undo_61 (iX12_undo_62 (iX12_undo_65 ?_)))
    rw [eR]
    exact ⟨rfl, rfl, rfl, rfl⟩
  refine inv_log_frame hlay ?_ ?_
  · exact frn (frl rfl (frl rfl (frn (frl rfl (fun _ _ _ => rfl)))))
  · have g : ∀ a b, (a < 7 ∨ 64 < a ∨ 17 ≤ a ∧ a < 58) → xu D (mrow (I 22 m)) (mcol (I 22 m) (I 21 m)) (I 23 m) a b = (xu (xu (xu I 20 5 (nI m)) 57 10 (nI m)) 57 11 (I 57 11 + 1)) a b := fun a b q => by
      rw [xu_row (by omega)]
      simp only [D, C, xu]
      grind
    unfold ivChg chOk
    simp only [f_has]
    simp (disch := omega) only [g]
    unfold chOk at ch6
    simp only [f_has] at ch6
    simp only [xu]
    refine ⟨by simp, by simp; grind, by simp; exact nI_pos' (by omega), by simp; grind, by simp; exact ch5, fun k hk hk2 => ?_⟩
    have := ch6 k hk (by simp at hk2; exact hk2)
    simp
    simpa using this
theorem pp_redo : PP_redo Inv := by
  intro I J h
  obtain ⟨hh, hb, hse, hin, hch, hta, hle, him, hcl, hsh, hlw⟩ := id h
  obtain ⟨a1, a2, a3, hB, a5, hS⟩ := id hh
  obtain ⟨ch1, ch2, ch3, ch4, ch5, ch6⟩ := id hch
  by_cases h0 : I 20 5 = I 20 6
  · have n4 : ¬ I 20 5 < I 20 6 := by rw [h0]; grind
    refine pair_of (v := -5) (v' := -5) (I1 := I) (I2 := I) (J1 := J) (J2 := J) ?_ ?_ rfl h
    · refine specF_of (L := [some (.ref 0)]) (by decide) (Nat.le_of_ble_eq_true rfl) rfl ?_
      refine iX11_redo_0 (iX11_redo_1 (iX11_redo_4 (s_goOn_0 n4) (iX11_redo_7 (fun h7 => ?_) (fun h7 => absurd (rfl) (by first | exact h7 | exact fun q => q h7)))))
      refine iX11_redo_20 (iX11_redo_22 ?_)
      first | exact ⟨rfl, rfl, rfl, rfl⟩ | (exfalso; (try simp only [f_in] at *); grind)
    · refine specF_of (L := [some (.ref 57)]) (by decide) (Nat.le_of_ble_eq_true rfl) rfl ?_
      have e4 : ¬ ¬ I 57 11 = 0 := by rw [ch2, h0]; exact fun q => q (by grind)
      refine iX12_redo_0 (iX12_redo_1 (iX12_redo_4 (fun h4 => absurd h4 (e4)) (fun h4 => ?_)))
      refine iX12_redo_7 (iX12_redo_9 ?_)
      first | exact ⟨rfl, rfl, rfl, rfl⟩ | (exfalso; (try simp only [f_in] at *); grind)
  obtain ⟨m, hm, em⟩ := nI_of2 (x := I 20 5) (M := 39) (n := 39) (by decide) (by grind) (by grind)
  have hml : nI m < I 20 6 := by grind
  obtain ⟨d1, d2, d3, d4, d5⟩ := ch6 m (by omega) hml
  have hlay := inv_lay h d5.1 d5.2.2
  have hmr := @mrow_in (I 22 m)
  have hc := has_cases d5.1 hB hS
  have hw10 : (I 22 m).toNatClampNeg < 10 := clamp_lt' (N := 10) (by decide) (by grind) (by grind)
  have emM : I 57 10 = nI m := by rw [ch1, em]
  let C := xu (xu I (7 + (I 22 m).toNatClampNeg) (I 21 m).toNatClampNeg (I 24 m)) 20 5 (nI (m + 1))
  let D := xu C (mrow (I 22 m)) (mcol (I 22 m) (I 21 m)) (I 24 m)
  have c57 : ∀ j, C 57 j = I 57 j := fun j => by simp only [C]; rw [xu_row (by omega), xu_row (by omega)]
  have c65 : C 65 m = I 22 m := by simp only [C]; rw [xu_row (by omega), xu_row (by omega), d1]
  have c66 : C 66 m = I 21 m := by simp only [C]; rw [xu_row (by omega), xu_row (by omega), d2]
  have c68 : C 68 m = I 24 m := by simp only [C]; rw [xu_row (by omega), xu_row (by omega), d4]
  have cB : C 1 2 = I 1 2 := by simp only [C]; rw [xu_row (by omega), xu_row (by omega)]
  have cS : C 1 3 = I 1 3 := by simp only [C]; rw [xu_row (by omega), xu_row (by omega)]
  have e20 : C 20 6 - C 20 5 = I 20 6 - nI (m + 1) := by
    simp only [C]
    rw [xu_eq]
    simp only [xu]
    grind
  have n4 : ¬ C 57 11 = 0 := by rw [c57, ch2]; grind
  have hCh : f_has C (I 21 m) (I 22 m) = 1 := by
    have := d5.1
    unfold f_has at this ⊢
    rw [cB, cS]
    exact this
  have sp : ∀ J, SpecF 0 M_X12_lays [.ref 57, .int (I 22 m), .int (I 21 m), .int (I 24 m)] xG1 C J none D J := fun J => s_X12_lays _ _ _ hCh (by rw [cB]; exact hB) (by rw [cS]; exact hS)
  have e10 : C 57 10 = nI m := by rw [c57, emM]
  have hv : vp_in (C 57 10) 40 := by rw [e10]; exact vp_in_nI (by omega) (by omega)
  have t : (C 57 10).toNatClampNeg = m := by rw [e10]; exact nI_clamp (by omega)
  have D10 : D 57 10 + 1 = nI (m + 1) := by simp only [D]; rw [xu_row (by omega), e10]; exact nI_1 m
  have D11 : D 57 11 - 1 = I 20 6 - nI (m + 1) := by
    simp only [D]
    rw [xu_row (by omega), c57, ch2, em, ← nI_1 m]
    grind
  refine pair_of (v := I 20 6 - nI (m + 1)) (v' := I 20 6 - nI (m + 1)) (I1 := C) (I2 := xu (xu D 57 10 (nI (m + 1))) 57 11 (I 20 6 - nI (m + 1))) (J1 := J) (J2 := J) ?_ ?_ rfl ?_
  · refine specF_of (L := [some (.ref 0)]) (by decide) (Nat.le_of_ble_eq_true rfl) rfl ?_
    refine iX11_redo_0 (iX11_redo_1 (iX11_redo_4 (s_goOn_1 (by omega) em (by grind) d5.1 hB hS) (iX11_redo_7 (fun h7 => absurd h7 (by decide)) (fun h7 => ?_))))
    refine iX11_redo_10 (iX11_redo_11 (iX11_redo_14 (s_ahead_of e20) (iX11_redo_17 (iX11_redo_22 ?_))))
    first | exact ⟨rfl, rfl, rfl, rfl⟩ | (exfalso; (try simp only [f_in] at *); grind)
  · refine specF_of (L := [some (.ref 57)]) (by decide) (Nat.le_of_ble_eq_true rfl) rfl ?_
    refine iX12_redo_0 (iX12_redo_1 (iX12_redo_4 (fun h4 => ?_) (fun h4 => absurd (n4) (by first | exact h4 | exact fun q => q h4))))
    refine iX12_redo_10 (iX12_redo_11 (iX12_redo_12 (iX12_redo_15 (iX12_redo_16 (iX12_redo_19 hv (iX12_redo_20 (iX12_redo_21 (iX12_redo_24 (iX12_redo_25 (iX12_redo_28 hv (iX12_redo_29 (iX12_redo_30 (iX12_redo_33 (iX12_redo_34 (iX12_redo_37 hv ?_)))))))))))))))
    rw [t, c65, c66, c68]
    refine iX12_redo_38 (sp _) (iX12_redo_41 (iX12_redo_42 (iX12_redo_43 (iX12_redo_46 (iX12_redo_47 (iX12_redo_48 ?_))))))
    rw [D10]
    refine iX12_redo_51 (iX12_redo_52 (iX12_redo_53 (iX12_redo_56 (iX12_redo_57 (iX12_redo_58 ?_)))))
    show WP _ _ _ _ _ 61 _ _ _ (xu (xu D 57 10 (nI (m + 1))) 57 11 (D 57 11 - 1)) _
    rw [D11]
    refine iX12_redo_61 (iX12_redo_62 (iX12_redo_65 ?_))
    first | exact ⟨rfl, rfl, rfl, rfl⟩ | (exfalso; (try simp only [f_in] at *); grind)
  refine inv_log_frame hlay ?_ ?_
  · exact frl rfl (frl rfl (frn (frl rfl (fun _ _ _ => rfl))))
  · have hlt : nI m < nI (m + 1) := nI_lt (by omega) (by omega)
    have hle2 : nI (m + 1) ≤ I 20 6 := by
      have := nI_1 m
      grind
    have g : ∀ a b, (a < 7 ∨ 64 < a ∨ 17 ≤ a ∧ a < 58) → xu (xu D 57 10 (nI (m + 1))) 57 11 (I 20 6 - nI (m + 1)) a b = (xu (xu (xu I 20 5 (nI (m + 1))) 57 10 (nI (m + 1))) 57 11 (I 20 6 - nI (m + 1))) a b := fun a b q => by
      simp only [D, C, xu]
      grind
    unfold ivChg chOk
    simp only [f_has]
    simp (disch := omega) only [g]
    unfold chOk at ch6
    simp only [f_has] at ch6
    simp only [xu]
    refine ⟨by simp, by simp, by simp; exact nI_pos' (by omega), by simp; exact hle2, by simp; exact ch5, fun k hk hk2 => ?_⟩
    have := ch6 k hk (by simp at hk2; exact hk2)
    simp
    simpa using this
