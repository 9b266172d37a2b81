/-! ===== undo, redo ===== -/
theorem pp_undo : PP_undo Inv := by
  intro I J h
  obtain ⟨hh, hb, hse, hin, hch, hta, hle, him, hcl, hsh, hlw⟩ := id h
  obtain ⟨a1, a2, a3, hB, a5, hS⟩ := id hh
  obtain ⟨ch1, ch2, ch3, ch4, ch5, ch6⟩ := id hch
  by_cases h0 : I 20 5 = 0
  · refine pair_of (v := -5) (v' := -5) (I1 := I) (I2 := I) (J1 := J) (J2 := J) ?_ ?_ rfl h
    · refine specF_of (L := [some (.ref 0)]) (by decide) (Nat.le_of_ble_eq_true rfl) rfl ?_
      refine iX11_undo_0 (iX11_undo_1 (iX11_undo_4 s_goBack_0 h0 (iX11_undo_7 (fun h7 => ?_) (fun h7 => absurd (rfl) (by first | exact h7 | exact fun q => q h7)))))
      refine iX11_undo_20 (iX11_undo_22 ?_)
      first | exact ⟨rfl, rfl, rfl, rfl⟩ | (exfalso; (try simp only [f_in] at *); grind)
    · refine specF_of (L := [some (.ref 57)]) (by decide) (Nat.le_of_ble_eq_true rfl) rfl ?_
      have e4 : ¬ ¬ I 57 10 = 0 := by rw [ch1]; exact fun q => q h0
      refine iX12_undo_0 (iX12_undo_1 (iX12_undo_4 (fun h4 => absurd h4 (e4)) (fun h4 => ?_)))
      refine iX12_undo_7 (iX12_undo_9 ?_)
      first | exact ⟨rfl, rfl, rfl, rfl⟩ | (exfalso; (try simp only [f_in] at *); grind)
  obtain ⟨m1, hm, em⟩ := nI_of2 (x := I 20 5) (M := 40) (n := 40) (by decide) (by grind) (by grind)
  obtain ⟨m, rfl⟩ : ∃ m, m1 = m + 1 := ⟨m1 - 1, by have : m1 ≠ 0 := fun q => h0 (by rw [em, q]; rfl)
                                                   omega⟩
  have ep : nI (m + 1) - 1 = nI m := nI_pred m
  have hml : nI m < I 20 6 := by have : nI m < nI (m + 1) := nI_lt (by omega) (by omega)
                                 grind
  obtain ⟨d1, d2, d3, d4, d5⟩ := ch6 m (by omega) hml
  have hlay := inv_lay h d5.1 d5.2.1
  have hmr := @mrow_in (I 22 m)
  have hc := has_cases d5.1 hB hS
  have hw10 : (I 22 m).toNatClampNeg < 10 := clamp_lt' (N := 10) (by decide) (by grind) (by grind)
  have em' : (nI m).toNatClampNeg = m := nI_clamp (by omega)
  have emM : I 57 10 = nI (m + 1) := by rw [ch1, em]
  refine pair_of (v := nI m) (v' := nI m) (I1 := xu (xu I 20 5 (nI m)) (7 + (I 22 m).toNatClampNeg) (I 21 m).toNatClampNeg (I 23 m)) (I2 := xu (xu (xu (xu (xu I 20 5 (nI m)) (7 + (I 22 m).toNatClampNeg) (I 21 m).toNatClampNeg (I 23 m)) 57 10 (nI m)) 57 11 (I 57 11 + 1)) (mrow (I 22 m)) (mcol (I 22 m) (I 21 m)) (I 23 m)) (J1 := J) (J2 := J) ?_ ?_ rfl ?_
  · sorry
  · sorry
  · sorry
