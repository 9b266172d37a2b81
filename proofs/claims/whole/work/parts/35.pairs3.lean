/-! ===== senator, feed, fed, born, pass, body ===== -/
theorem may_0 (v : Int32) : f_may 0 v = f_in v 1 9 := by unfold f_may; rw [if_neg (by decide)]; rfl
theorem may_1 (v : Int32) : f_may 1 v = f_in v 0 9 := by unfold f_may; rw [if_neg (by decide)]; rfl
theorem may_2 (v : Int32) : f_may 2 v = f_in v 0 3 := by unfold f_may; rw [if_neg (by decide)]; rfl
theorem may_3 (v : Int32) : f_may 3 v = f_in v 0 99 := by unfold f_may; rw [if_neg (by decide)]; rfl
theorem may_4 (v : Int32) : f_may 4 v = f_in v 0 9 := by unfold f_may; rw [if_neg (by decide)]; rfl
theorem may_5 (v : Int32) : f_may 5 v = f_in v 0 2 := by unfold f_may; rw [if_neg (by decide)]; rfl
theorem may_6 (v : Int32) : f_may 6 v = f_in v 0 9 := by unfold f_may; rw [if_neg (by decide)]; rfl
theorem may_7 (v : Int32) : f_may 7 v = f_in v 0 9 := by unfold f_may; rw [if_neg (by decide)]; rfl
theorem may_8 (v : Int32) : f_may 8 v = f_in v 0 95 := by unfold f_may; rw [if_neg (by decide)]; rfl
theorem may_9 (v : Int32) : f_may 9 v = f_in v (-2147483648) 2147483647 := by unfold f_may; rw [if_neg (by decide)]; rfl
section
variable {I : xI} {J : xJ}
theorem s_X10_take_full (v : Int32) (h : 120 ≤ I 17 2) : SpecF 0 M_X10_take [.ref 17, .int v] xG1 I J (some (.int (-3))) I J := by
  refine specF_of (L := [some (.ref 17), some (.int v)]) (by decide) (Nat.le_of_ble_eq_true rfl) rfl ?_
  refine iX10_take_0 (iX10_take_1 (iX10_take_4 (iX10_take_6 (fun h6 => ?_) (fun h6 => ?_))))
  · exfalso
    grind
  · refine iX10_take_9 (iX10_take_11 ?_)
    exact ⟨rfl, rfl, rfl, rfl⟩
theorem s_X10_take_ok (v : Int32) (h0 : 0 ≤ I 17 2) (h : I 17 2 < 120) : SpecF 0 M_X10_take [.ref 17, .int v] xG1 I J (some (.int (I 17 2 + 1))) (xu (xu I 18 (I 17 2).toNatClampNeg v) 17 2 (I 17 2 + 1)) J := by
  refine specF_of (L := [some (.ref 17), some (.int v)]) (by decide) (Nat.le_of_ble_eq_true rfl) rfl ?_
  refine iX10_take_0 (iX10_take_1 (iX10_take_4 (iX10_take_6 (fun h6 => ?_) (fun h6 => absurd (h) (by first | exact h6 | exact fun q => q h6)))))
  refine iX10_take_12 (iX10_take_13 (iX10_take_16 (iX10_take_17 (iX10_take_20 (iX10_take_21 (vin 120 (by decide) (by grind) (by grind)) (iX10_take_22 (iX10_take_23 (iX10_take_24 (iX10_take_27 (iX10_take_28 (iX10_take_29 (iX10_take_30 (iX10_take_33 ?_)))))))))))))
  exact ⟨by simp [xu], rfl, by simp [xu], rfl⟩
theorem s_X4_nourish (hB : I 1 2 ≤ 10) (hS : I 1 3 ≤ 6) : SpecF 3 M_X4_nourish [.ref 37] xG1 I J (some (.int (I 15 0))) (xu (xu I 15 0 0) 38 4 (I 38 4 + 1)) J := by
  refine specF_of (L := [some (.ref 37), none]) (by decide) (Nat.le_of_ble_eq_true rfl) rfl ?_
  refine iX4_nourish_0 (iX4_nourish_1 (iX4_nourish_4 (iX4_nourish_6 (s_its 8 15 (by decide) (by decide) (by decide) (by decide) hB hS) (iX4_nourish_9 (iX4_nourish_10 (iX4_nourish_11 (iX4_nourish_14 (iX4_nourish_15 (iX4_nourish_17 (iX4_nourish_18 (s_setInf 8 15 _ (by decide) (by decide) (by decide) (by decide) hB hS) (iX4_nourish_21 (iX4_nourish_22 (iX4_nourish_25 (iX4_nourish_26 (iX4_nourish_27 (vin 6 (by decide) (by decide) (by decide)) (iX4_nourish_28 (iX4_nourish_29 (iX4_nourish_30 (vin 6 (by decide) (by decide) (by decide)) (iX4_nourish_31 (iX4_nourish_32 ?_))))))))))))))))))))
  exact ⟨rfl, rfl, rfl, rfl⟩
theorem s_X4_bringIn (t w : Int32) (hB : I 1 2 ≤ 10) (hS : I 1 3 ≤ 6) : SpecF 3 M_X4_bringIn [.ref 37, .int t, .int w] xG1 I J (some (.int w)) (xu (xu (xu (xu I 13 0 t) 14 0 w) 15 0 0) 38 5 (I 38 5 + 1)) J := by
  refine specF_of (L := [some (.ref 37), some (.int t), some (.int w)]) (by decide) (Nat.le_of_ble_eq_true rfl) rfl ?_
  refine iX4_bringIn_0 (iX4_bringIn_1 (iX4_bringIn_4 (iX4_bringIn_5 (iX4_bringIn_7 (iX4_bringIn_8 (s_setInf 6 13 _ (by decide) (by decide) (by decide) (by decide) hB hS) (iX4_bringIn_11 (iX4_bringIn_12 (iX4_bringIn_15 (iX4_bringIn_16 (iX4_bringIn_18 (iX4_bringIn_19 (s_setInf 7 14 _ (by decide) (by decide) (by decide) (by decide) hB hS) (iX4_bringIn_22 (iX4_bringIn_23 (iX4_bringIn_26 (iX4_bringIn_27 (iX4_bringIn_29 (iX4_bringIn_30 (s_setInf 8 15 _ (by decide) (by decide) (by decide) (by decide) hB hS) (iX4_bringIn_33 (iX4_bringIn_34 (iX4_bringIn_37 (iX4_bringIn_38 (iX4_bringIn_39 (vin 6 (by decide) (by decide) (by decide)) (iX4_bringIn_40 (iX4_bringIn_41 (iX4_bringIn_42 (vin 6 (by decide) (by decide) (by decide)) (iX4_bringIn_43 (iX4_bringIn_44 ?_)))))))))))))))))))))))))))
  exact ⟨rfl, rfl, rfl, rfl⟩
theorem s_X4_letPass (q : Int32) (hB : I 1 2 ≤ 10) (hS : I 1 3 ≤ 6) : SpecF 3 M_X4_letPass [.ref 37, .int q] xG1 I J (some (.int (f_min 95 (I 15 0 + q)))) (xu I 15 0 (f_min 95 (I 15 0 + q))) J := by
  refine specF_of (L := [some (.ref 37), some (.int q)]) (by decide) (Nat.le_of_ble_eq_true rfl) rfl ?_
  refine iX4_letPass_0 (iX4_letPass_1 (iX4_letPass_4 (iX4_letPass_5 (iX4_letPass_7 (iX4_letPass_8 (iX4_letPass_11 (iX4_letPass_12 (iX4_letPass_15 (iX4_letPass_17 (s_its 8 15 (by decide) (by decide) (by decide) (by decide) hB hS) (iX4_letPass_20 (iX4_letPass_21 (s_X5_later _ _) (iX4_letPass_24 (s_setInf 8 15 _ (by decide) (by decide) (by decide) (by decide) hB hS) (iX4_letPass_27 (iX4_letPass_28 (iX4_letPass_31 (iX4_letPass_33 (s_its 8 15 (by decide) (by decide) (by decide) (by decide) hB hS) (iX4_letPass_36 ?_)))))))))))))))))
  exact ⟨by simp [xu], rfl, rfl, rfl⟩
theorem s_X3_add_full (v : Int32) (h : 50 ≤ I 41 2) : SpecF 0 M_X3_add [.ref 41, .int v] xG1 I J (some (.int (-3))) I J := by
  refine specF_of (L := [some (.ref 41), some (.int v)]) (by decide) (Nat.le_of_ble_eq_true rfl) rfl ?_
  refine iX3_add_0 (iX3_add_1 (iX3_add_4 (iX3_add_6 (fun h6 => ?_) (fun h6 => ?_))))
  · refine iX3_add_12 (iX3_add_13 (iX3_add_16 (iX3_add_17 (iX3_add_20 (iX3_add_21 (vin 50 (by decide) (by grind) (by grind)) (iX3_add_22 (iX3_add_23 (iX3_add_24 (iX3_add_27 (iX3_add_28 (iX3_add_29 (iX3_add_30 (iX3_add_33 ?_)))))))))))))
    first | exact ⟨rfl, rfl, rfl, rfl⟩ | (exfalso; grind)
  · refine iX3_add_9 (iX3_add_11 ?_)
    first | exact ⟨rfl, rfl, rfl, rfl⟩ | (exfalso; grind)
theorem s_X3_add_ok (v : Int32) (h0 : 0 ≤ I 41 2) (h : I 41 2 < 50) : SpecF 0 M_X3_add [.ref 41, .int v] xG1 I J (some (.int (I 41 2))) (xu (xu I 42 (I 41 2).toNatClampNeg v) 41 2 (I 41 2 + 1)) J := by
  refine specF_of (L := [some (.ref 41), some (.int v)]) (by decide) (Nat.le_of_ble_eq_true rfl) rfl ?_
  refine iX3_add_0 (iX3_add_1 (iX3_add_4 (iX3_add_6 (fun h6 => ?_) (fun h6 => ?_))))
  · refine iX3_add_12 (iX3_add_13 (iX3_add_16 (iX3_add_17 (iX3_add_20 (iX3_add_21 (vin 50 (by decide) (by grind) (by grind)) (iX3_add_22 (iX3_add_23 (iX3_add_24 (iX3_add_27 (iX3_add_28 (iX3_add_29 (iX3_add_30 (iX3_add_33 ?_)))))))))))))
    first | exact ⟨by simp [xu], rfl, by simp [xu], rfl⟩ | (exfalso; grind)
  · refine iX3_add_9 (iX3_add_11 ?_)
    first | exact ⟨by simp [xu], rfl, by simp [xu], rfl⟩ | (exfalso; grind)
end
theorem pp_senator : PP_senator Inv := by
  intro I J h r p
  obtain ⟨hh, hb, hse, hin, hch, hta, hle, him, hcl, hsh, hlw⟩ := id h
  obtain ⟨a1, a2, a3, a4, a5, a6⟩ := id hh
  have m4 := may_4 r
  have m5 := may_5 p
  by_cases hbad : r < 0 ∨ 9 < r ∨ p < 0 ∨ 2 < p
  · refine pair_of (v := -1) (v' := -1) (I1 := I) (I2 := I) (J1 := J) (J2 := J) ?_ ?_ rfl h
    · refine specF_of (L := [some (.ref 0), some (.int r), some (.int p)]) (by decide) (Nat.le_of_ble_eq_true rfl) rfl ?_
      refine iX11_senator_0 (iX11_senator_1 (iX11_senator_2 (s_X5_may _ _) (iX11_senator_5 (fun h5 => ?_) (fun h5 => ?_))))
      · refine iX11_senator_16 (iX11_senator_17 ?_)
        first | exact ⟨rfl, rfl, rfl, rfl⟩ | (exfalso; (try simp only [f_in] at *); grind)
      · refine iX11_senator_8 (iX11_senator_9 (iX11_senator_10 (s_X5_may _ _) (iX11_senator_13 (fun h13 => ?_) (fun h13 => ?_))))
        · exfalso
          simp only [f_in] at *
          grind
        · refine iX11_senator_16 (iX11_senator_17 ?_)
          first | exact ⟨rfl, rfl, rfl, rfl⟩ | (exfalso; (try simp only [f_in] at *); grind)
    · refine specF_of (L := [some (.ref 57), some (.int r), some (.int p)]) (by decide) (Nat.le_of_ble_eq_true rfl) rfl ?_
      refine iX12_senator_0 (iX12_senator_1 (iX12_senator_2 (iX12_senator_4 (s_X12_in _ _ _) (iX12_senator_7 (fun h7 => ?_) (fun h7 => ?_)))))
      · refine iX12_senator_19 (iX12_senator_20 ?_)
        first | exact ⟨rfl, rfl, rfl, rfl⟩ | (exfalso; (try simp only [f_in] at *); grind)
      · refine iX12_senator_10 (iX12_senator_11 (iX12_senator_12 (iX12_senator_13 (s_X12_in _ _ _) (iX12_senator_16 (fun h16 => ?_) (fun h16 => ?_)))))
        · exfalso
          simp only [f_in] at *
          grind
        · refine iX12_senator_19 (iX12_senator_20 ?_)
          first | exact ⟨rfl, rfl, rfl, rfl⟩ | (exfalso; (try simp only [f_in] at *); grind)
  by_cases hfull : I 1 3 = 6
  · refine pair_of (v := -3) (v' := -3) (I1 := I) (I2 := I) (J1 := J) (J2 := J) ?_ ?_ rfl h
    · refine specF_of (L := [some (.ref 0), some (.int r), some (.int p)]) (by decide) (Nat.le_of_ble_eq_true rfl) rfl ?_
      refine iX11_senator_0 (iX11_senator_1 (iX11_senator_2 (s_X5_may _ _) (iX11_senator_5 (fun h5 => ?_) (fun h5 => ?_))))
      · refine iX11_senator_16 (iX11_senator_17 ?_)
        first | exact ⟨rfl, rfl, rfl, rfl⟩ | (exfalso; (try simp only [f_in] at *); grind)
      · refine iX11_senator_8 (iX11_senator_9 (iX11_senator_10 (s_X5_may _ _) (iX11_senator_13 (fun h13 => ?_) (fun h13 => ?_))))
        · refine iX11_senator_18 (iX11_senator_19 (iX11_senator_22 (iX11_senator_23 (iX11_senator_24 (s_X5_addSenator_full _ _ (by grind)) (iX11_senator_27 ?_)))))
          first | exact ⟨rfl, rfl, rfl, rfl⟩ | (exfalso; (try simp only [f_in] at *); grind)
        · refine iX11_senator_16 (iX11_senator_17 ?_)
          first | exact ⟨rfl, rfl, rfl, rfl⟩ | (exfalso; (try simp only [f_in] at *); grind)
    · refine specF_of (L := [some (.ref 57), some (.int r), some (.int p)]) (by decide) (Nat.le_of_ble_eq_true rfl) rfl ?_
      refine iX12_senator_0 (iX12_senator_1 (iX12_senator_2 (iX12_senator_4 (s_X12_in _ _ _) (iX12_senator_7 (fun h7 => ?_) (fun h7 => ?_)))))
      · refine iX12_senator_19 (iX12_senator_20 ?_)
        first | exact ⟨rfl, rfl, rfl, rfl⟩ | (exfalso; (try simp only [f_in] at *); grind)
      · refine iX12_senator_10 (iX12_senator_11 (iX12_senator_12 (iX12_senator_13 (s_X12_in _ _ _) (iX12_senator_16 (fun h16 => ?_) (fun h16 => ?_)))))
        · refine iX12_senator_21 (iX12_senator_22 (iX12_senator_25 (iX12_senator_27 (fun h27 => ?_) (fun h27 => ?_))))
          · exfalso
            grind
          · refine iX12_senator_30 (iX12_senator_32 ?_)
            first | exact ⟨rfl, rfl, rfl, rfl⟩ | (exfalso; (try simp only [f_in] at *); grind)
        · refine iX12_senator_19 (iX12_senator_20 ?_)
          first | exact ⟨rfl, rfl, rfl, rfl⟩ | (exfalso; (try simp only [f_in] at *); grind)
  have hlt : I 1 3 < 6 := by grind
  have hk : (I 1 3).toNatClampNeg < 6 := clamp_lt' (N := 6) (by decide) a5 hlt
  have hv57 : vp_in (I 57 6) 6 := vin 6 (by decide) (by grind) (by grind)
  refine pair_of (v := I 1 3) (v' := I 1 3) (I1 := g_addSenator I r p) (J1 := J) (I2 := xu (xu (xu (g_addSenator I r p) 62 (I 1 3).toNatClampNeg r) 63 (I 1 3).toNatClampNeg p) 57 6 (I 1 3 + 1)) (J2 := J) ?_ ?_ rfl ?_
  · refine specF_of (L := [some (.ref 0), some (.int r), some (.int p)]) (by decide) (Nat.le_of_ble_eq_true rfl) rfl ?_
    refine iX11_senator_0 (iX11_senator_1 (iX11_senator_2 (s_X5_may _ _) (iX11_senator_5 (fun h5 => ?_) (fun h5 => ?_))))
    · refine iX11_senator_16 (iX11_senator_17 ?_)
      first | exact ⟨rfl, rfl, rfl, rfl⟩ | (exfalso; simp only [f_in] at *; grind)
    · refine iX11_senator_8 (iX11_senator_9 (iX11_senator_10 (s_X5_may _ _) (iX11_senator_13 (fun h13 => ?_) (fun h13 => ?_))))
      · refine iX11_senator_18 (iX11_senator_19 (iX11_senator_22 (iX11_senator_23 (iX11_senator_24 (s_X5_addSenator_ok _ _ (by grind) (by grind)) (iX11_senator_27 ?_)))))
        first | exact ⟨rfl, rfl, rfl, rfl⟩ | (exfalso; simp only [f_in] at *; grind)
      · refine iX11_senator_16 (iX11_senator_17 ?_)
        first | exact ⟨rfl, rfl, rfl, rfl⟩ | (exfalso; simp only [f_in] at *; grind)
  · refine specF_of (L := [some (.ref 57), some (.int r), some (.int p)]) (by decide) (Nat.le_of_ble_eq_true rfl) rfl ?_
    have e57 : g_addSenator I r p 57 6 = I 1 3 := by simp [g_addSenator, xu, a2]
    refine iX12_senator_0 (iX12_senator_1 (iX12_senator_2 (iX12_senator_4 (s_X12_in _ _ _) (iX12_senator_7 (fun h7 => ?_) (fun h7 => ?_)))))
    · refine iX12_senator_19 (iX12_senator_20 ?_)
      first | (refine ⟨?_, rfl, ?_, rfl⟩ <;> (simp [xu, e57]; done)) | (exfalso; (try simp only [f_in] at *); grind)
    · refine iX12_senator_10 (iX12_senator_11 (iX12_senator_12 (iX12_senator_13 (s_X12_in _ _ _) (iX12_senator_16 (fun h16 => ?_) (fun h16 => ?_)))))
      · refine iX12_senator_21 (iX12_senator_22 (iX12_senator_25 (iX12_senator_27 (fun h27 => ?_) (fun h27 => ?_))))
        · refine iX12_senator_33 (iX12_senator_34 (iX12_senator_37 (iX12_senator_38 (iX12_senator_41 (iX12_senator_42 hv57 (iX12_senator_43 (iX12_senator_44 (iX12_senator_47 (iX12_senator_48 (iX12_senator_51 (iX12_senator_52 hv57 (iX12_senator_53 (iX12_senator_54 (iX12_senator_55 (iX12_senator_58 (iX12_senator_59 (iX12_senator_60 (iX12_senator_63 (iX12_senator_64 (iX12_senator_67 (iX12_senator_68 (iX12_senator_69 ?_))))))))))))))))))))))
          first | (refine ⟨?_, rfl, ?_, rfl⟩ <;> (simp [xu, e57]; done)) | (exfalso; (try simp only [f_in] at *); grind)
        · refine iX12_senator_30 (iX12_senator_32 ?_)
          first | (refine ⟨?_, rfl, ?_, rfl⟩ <;> (simp [xu, e57]; done)) | (exfalso; (try simp only [f_in] at *); grind)
      · refine iX12_senator_19 (iX12_senator_20 ?_)
        first | (refine ⟨?_, rfl, ?_, rfl⟩ <;> (simp [xu, e57]; done)) | (exfalso; (try simp only [f_in] at *); grind)
  unfold g_addSenator
  generalize (I 1 3).toNatClampNeg = k at hk
  refine ⟨?_, ?_, ?_, ?_, ?_, ?_, ?_, ?_, ?_, ?_, ?_⟩
  · simp only [ivHouse, xu] at hh ⊢
    grind
  · intro b hb'
    have := hb b hb'
    simp only [xu]
    grind
  · intro b hb'
    have := hse b hb'
    simp only [xu]
    grind
  · simp only [ivInf, xu] at hin ⊢
    grind
  · exact ivChg_frame hch (by simp [xu_rowf]) (by simp [xu]) (by simp [xu]) (by simp [xu]) (by simp [xu]; grind)
  · simp only [ivTape, xu] at hta ⊢
    grind
  · intro b hb'
    have := hle b hb'
    simp only [xu]
    grind
  · simp only [ivImg, xu] at him ⊢
    grind
  · simp only [ivCl, xu] at hcl ⊢
    grind
  · exact ivSh_frame hsh (fun s hs => by simp (disch := omega) only [xu_rowf]) (by simp [xu_rowf]) (by simp [xu_rowf]) (by simp [xu]) (fun _ _ => rfl) rfl
  · exact ivLaw_frame hlw (by simp [lawRows, xu, xu_rowf])
theorem pp_feed : PP_feed Inv := by
  intro I J h v
  obtain ⟨hh, hb, hse, hin, hch, hta, hle, him, hcl, hsh, hlw⟩ := id h
  obtain ⟨t1, t2, t3, t4⟩ := id hta
  by_cases hbad : v < 0 ∨ 255 < v
  · refine pair_of (v := -1) (v' := -1) (I1 := I) (I2 := I) (J1 := J) (J2 := J) ?_ ?_ rfl h
    · refine specF_of (L := [some (.ref 0), some (.int v)]) (by decide) (Nat.le_of_ble_eq_true rfl) rfl ?_
      refine iX11_feed_0 (iX11_feed_1 (fun h1 => ?_) (fun h1 => ?_))
      · refine iX11_feed_11 (iX11_feed_12 ?_)
        first | exact ⟨rfl, rfl, rfl, rfl⟩ | (exfalso; (try simp only [f_in] at *); grind)
      · refine iX11_feed_4 (iX11_feed_5 (iX11_feed_8 (fun h8 => ?_) (fun h8 => ?_)))
        · exfalso
          grind
        · refine iX11_feed_11 (iX11_feed_12 ?_)
          first | exact ⟨rfl, rfl, rfl, rfl⟩ | (exfalso; (try simp only [f_in] at *); grind)
    · refine specF_of (L := [some (.ref 57), some (.int v)]) (by decide) (Nat.le_of_ble_eq_true rfl) rfl ?_
      refine iX12_feed_0 (iX12_feed_1 (iX12_feed_2 (iX12_feed_5 (s_X12_in _ _ _) (iX12_feed_8 (fun h8 => ?_) (fun h8 => ?_)))))
      · exfalso
        simp only [f_in] at *
        grind
      · refine iX12_feed_11 (iX12_feed_12 ?_)
        first | exact ⟨rfl, rfl, rfl, rfl⟩ | (exfalso; (try simp only [f_in] at *); grind)
  by_cases hfull : I 17 2 = 120
  · refine pair_of (v := -3) (v' := -3) (I1 := I) (I2 := I) (J1 := J) (J2 := J) ?_ ?_ rfl h
    · refine specF_of (L := [some (.ref 0), some (.int v)]) (by decide) (Nat.le_of_ble_eq_true rfl) rfl ?_
      refine iX11_feed_0 (iX11_feed_1 (fun h1 => ?_) (fun h1 => ?_))
      · refine iX11_feed_11 (iX11_feed_12 ?_)
        first | exact ⟨rfl, rfl, rfl, rfl⟩ | (exfalso; (try simp only [f_in] at *); grind)
      · refine iX11_feed_4 (iX11_feed_5 (iX11_feed_8 (fun h8 => ?_) (fun h8 => ?_)))
        · refine iX11_feed_13 (iX11_feed_14 (iX11_feed_17 (iX11_feed_18 (s_X10_take_full _ (by grind)) (iX11_feed_21 ?_))))
          first | exact ⟨rfl, rfl, rfl, rfl⟩ | (exfalso; (try simp only [f_in] at *); grind)
        · refine iX11_feed_11 (iX11_feed_12 ?_)
          first | exact ⟨rfl, rfl, rfl, rfl⟩ | (exfalso; (try simp only [f_in] at *); grind)
    · refine specF_of (L := [some (.ref 57), some (.int v)]) (by decide) (Nat.le_of_ble_eq_true rfl) rfl ?_
      refine iX12_feed_0 (iX12_feed_1 (iX12_feed_2 (iX12_feed_5 (s_X12_in _ _ _) (iX12_feed_8 (fun h8 => ?_) (fun h8 => ?_)))))
      · refine iX12_feed_13 (iX12_feed_14 (iX12_feed_17 (iX12_feed_19 (fun h19 => ?_) (fun h19 => ?_))))
        · exfalso
          grind
        · refine iX12_feed_22 (iX12_feed_24 ?_)
          first | exact ⟨rfl, rfl, rfl, rfl⟩ | (exfalso; (try simp only [f_in] at *); grind)
      · refine iX12_feed_11 (iX12_feed_12 ?_)
        first | exact ⟨rfl, rfl, rfl, rfl⟩ | (exfalso; (try simp only [f_in] at *); grind)
  have hlt : I 17 2 < 120 := by grind
  have hk : (I 17 2).toNatClampNeg < 120 := clamp_lt' (N := 120) (by decide) t2 hlt
  have hkk := clamp_nI t2
  have hv57 : vp_in (I 57 17) 120 := vin 120 (by decide) (by grind) (by grind)
  refine pair_of (v := I 17 2 + 1) (v' := I 17 2 + 1) (I1 := xu (xu I 18 (I 17 2).toNatClampNeg v) 17 2 (I 17 2 + 1)) (J1 := J) (I2 := xu (xu (xu (xu I 18 (I 17 2).toNatClampNeg v) 17 2 (I 17 2 + 1)) 69 (I 17 2).toNatClampNeg (vp_nar .byte v)) 57 17 (I 17 2 + 1)) (J2 := J) ?_ ?_ rfl ?_
  · refine specF_of (L := [some (.ref 0), some (.int v)]) (by decide) (Nat.le_of_ble_eq_true rfl) rfl ?_
    refine iX11_feed_0 (iX11_feed_1 (fun h1 => ?_) (fun h1 => ?_))
    · refine iX11_feed_11 (iX11_feed_12 ?_)
      first | exact ⟨rfl, rfl, rfl, rfl⟩ | (exfalso; (try simp only [f_in] at *); grind)
    · refine iX11_feed_4 (iX11_feed_5 (iX11_feed_8 (fun h8 => ?_) (fun h8 => ?_)))
      · refine iX11_feed_13 (iX11_feed_14 (iX11_feed_17 (iX11_feed_18 (s_X10_take_ok _ (by grind) (by grind)) (iX11_feed_21 ?_))))
        first | exact ⟨rfl, rfl, rfl, rfl⟩ | (exfalso; (try simp only [f_in] at *); grind)
      · refine iX11_feed_11 (iX11_feed_12 ?_)
        first | exact ⟨rfl, rfl, rfl, rfl⟩ | (exfalso; (try simp only [f_in] at *); grind)
  · refine specF_of (L := [some (.ref 57), some (.int v)]) (by decide) (Nat.le_of_ble_eq_true rfl) rfl ?_
    have e57 : (xu (xu I 18 (I 17 2).toNatClampNeg v) 17 2 (I 17 2 + 1)) 57 17 = I 17 2 := by simp [xu, t1]
    refine iX12_feed_0 (iX12_feed_1 (iX12_feed_2 (iX12_feed_5 (s_X12_in _ _ _) (iX12_feed_8 (fun h8 => ?_) (fun h8 => ?_)))))
    · refine iX12_feed_13 (iX12_feed_14 (iX12_feed_17 (iX12_feed_19 (fun h19 => ?_) (fun h19 => ?_))))
      · refine iX12_feed_25 (iX12_feed_26 (iX12_feed_29 (iX12_feed_30 (iX12_feed_33 (iX12_feed_34 (iX12_feed_35 hv57 (iX12_feed_36 (iX12_feed_37 (iX12_feed_38 (iX12_feed_41 (iX12_feed_42 (iX12_feed_43 (iX12_feed_46 (iX12_feed_47 (iX12_feed_50 ?_)))))))))))))))
        first | (refine ⟨?_, rfl, ?_, rfl⟩ <;> (simp [xu, t1, vp_nar_byte]; done)) | (exfalso; (try simp only [f_in] at *); grind)
      · refine iX12_feed_22 (iX12_feed_24 ?_)
        first | (refine ⟨?_, rfl, ?_, rfl⟩ <;> (simp [xu, t1, vp_nar_byte]; done)) | (exfalso; (try simp only [f_in] at *); grind)
    · refine iX12_feed_11 (iX12_feed_12 ?_)
      first | (refine ⟨?_, rfl, ?_, rfl⟩ <;> (simp [xu, t1, vp_nar_byte]; done)) | (exfalso; (try simp only [f_in] at *); grind)
  generalize (I 17 2).toNatClampNeg = k at hk hkk
  refine ⟨?_, ?_, ?_, ?_, ?_, ?_, ?_, ?_, ?_, ?_, ?_⟩
  · simp only [ivHouse, xu] at hh ⊢
    grind
  · intro b hb'
    have := hb b hb'
    simp only [xu]
    grind
  · intro b hb'
    have := hse b hb'
    simp only [xu]
    grind
  · simp only [ivInf, xu] at hin ⊢
    grind
  · exact ivChg_frame hch (by simp [xu_rowf]) (by simp [xu]) (by simp [xu]) (by simp [xu]) (by simp [xu])
  · simp only [ivTape, xu] at hta ⊢
    refine ⟨by simp, by simp; grind, by simp; grind, fun j hj => ?_⟩
    have e := t4 j hj
    have q : nI j < I 17 2 + 1 → ¬ j = k → nI j < I 17 2 := fun q1 q2 => by have q3 : ¬ nI j = nI k := fun q => q2 ((nI_eq (by omega) (by omega)).mp q); rw [hkk] at q3; grind
    simp
    grind
  · intro b hb'
    have := hle b hb'
    simp only [xu]
    grind
  · simp only [ivImg, xu] at him ⊢
    grind
  · simp only [ivCl, xu] at hcl ⊢
    grind
  · exact ivSh_frame hsh (fun s hs => by simp (disch := omega) only [xu_rowf]) (by simp [xu_rowf]) (by simp [xu_rowf]) (by simp [xu]) (fun _ _ => rfl) rfl
  · exact ivLaw_frame hlw (by simp [lawRows, xu, xu_rowf])
theorem pp_fed : PP_fed Inv := by
  intro I J h
  obtain ⟨hh, hb, hse, hin, hch, hta, hle, him, hcl, hsh, hlw⟩ := id h
  have hB := hh.2.2.2.1
  have hS := hh.2.2.2.2.2
  obtain ⟨b1, b2, b3, b4, b5, b6, b7, b8, b9, b10⟩ := id hin
  have e4 := hle 4 (by decide)
  refine pair_of (v := I 15 0) (v' := I 64 2) (I1 := xu (xu I 15 0 0) 38 4 (I 38 4 + 1)) (J1 := J) (I2 := xu (xu (xu (xu I 15 0 0) 38 4 (I 38 4 + 1)) 64 2 0) 82 4 (I 82 4 + 1)) (J2 := J) ?_ ?_ b3 ?_
  · refine specF_of (L := [some (.ref 0)]) (by decide) (Nat.le_of_ble_eq_true rfl) rfl ?_
    refine iX11_fed_0 (iX11_fed_1 (iX11_fed_4 (s_X4_nourish hB hS) (iX11_fed_7 ?_)))
    first | exact ⟨rfl, rfl, rfl, rfl⟩ | (exfalso; (try simp only [f_in] at *); grind)
  · refine specF_of (L := [some (.ref 57), none]) (by decide) (Nat.le_of_ble_eq_true rfl) rfl ?_
    refine iX12_fed_0 (iX12_fed_1 (iX12_fed_4 (iX12_fed_5 (vin 4 (by decide) (by decide) (by decide)) (iX12_fed_6 (iX12_fed_7 (iX12_fed_8 (iX12_fed_11 (iX12_fed_12 (iX12_fed_13 (vin 4 (by decide) (by decide) (by decide)) (iX12_fed_14 (iX12_fed_15 (iX12_fed_18 (iX12_fed_19 (iX12_fed_20 (vin 6 (by decide) (by decide) (by decide)) (iX12_fed_21 (iX12_fed_22 (iX12_fed_23 (vin 6 (by decide) (by decide) (by decide)) (iX12_fed_24 (iX12_fed_25 ?_)))))))))))))))))))
    first | exact ⟨rfl, rfl, rfl, rfl⟩ | (exfalso; (try simp only [f_in] at *); grind)
  rw [e4]
  refine ⟨?_, ?_, ?_, ?_, ?_, ?_, ?_, ?_, ?_, ?_, ?_⟩
  · simp only [ivHouse, xu] at hh ⊢
    grind
  · intro b hb'
    have := hb b hb'
    simp only [xu]
    grind
  · intro b hb'
    have := hse b hb'
    simp only [xu]
    grind
  · simp only [ivInf, xu] at hin ⊢
    grind
  · exact ivChg_frame hch (by simp [xu_rowf]) (by simp [xu]) (by simp [xu]) (by simp [xu]) (by simp [xu])
  · simp only [ivTape, xu] at hta ⊢
    grind
  · intro b hb'
    have := hle b hb'
    simp only [xu]
    grind
  · simp only [ivImg, xu] at him ⊢
    grind
  · simp only [ivCl, xu] at hcl ⊢
    grind
  · exact ivSh_frame hsh (fun s hs => by simp (disch := omega) only [xu_rowf]) (by simp [xu_rowf]) (by simp [xu_rowf]) (by simp [xu]) (fun _ _ => rfl) rfl
  · exact ivLaw_frame hlw (by simp [lawRows, xu, xu_rowf])
theorem pp_born : PP_born Inv := by
  intro I J h t w
  obtain ⟨hh, hb, hse, hin, hch, hta, hle, him, hcl, hsh, hlw⟩ := id h
  have hB := hh.2.2.2.1
  have hS := hh.2.2.2.2.2
  have m6 := may_6 t
  have m7 := may_7 w
  by_cases hbad : t < 0 ∨ 9 < t ∨ w < 0 ∨ 9 < w
  · refine pair_of (v := -1) (v' := -1) (I1 := I) (I2 := I) (J1 := J) (J2 := J) ?_ ?_ rfl h
    · refine specF_of (L := [some (.ref 0), some (.int t), some (.int w)]) (by decide) (Nat.le_of_ble_eq_true rfl) rfl ?_
      refine iX11_born_0 (iX11_born_2 (iX11_born_3 (s_X5_may _ _) (iX11_born_6 (fun h6 => ?_) (fun h6 => ?_))))
      · refine iX11_born_18 (iX11_born_19 ?_)
        first | exact ⟨rfl, rfl, rfl, rfl⟩ | (exfalso; (try simp only [f_in] at *); grind)
      · refine iX11_born_9 (iX11_born_11 (iX11_born_12 (s_X5_may _ _) (iX11_born_15 (fun h15 => ?_) (fun h15 => ?_))))
        · exfalso
          simp only [f_in] at *
          grind
        · refine iX11_born_18 (iX11_born_19 ?_)
          first | exact ⟨rfl, rfl, rfl, rfl⟩ | (exfalso; (try simp only [f_in] at *); grind)
    · refine specF_of (L := [some (.ref 57), some (.int t), some (.int w)]) (by decide) (Nat.le_of_ble_eq_true rfl) rfl ?_
      refine iX12_born_0 (iX12_born_1 (iX12_born_2 (iX12_born_4 (s_X12_in _ _ _) (iX12_born_7 (fun h7 => ?_) (fun h7 => ?_)))))
      · refine iX12_born_20 (iX12_born_21 ?_)
        first | exact ⟨rfl, rfl, rfl, rfl⟩ | (exfalso; (try simp only [f_in] at *); grind)
      · refine iX12_born_10 (iX12_born_11 (iX12_born_12 (iX12_born_14 (s_X12_in _ _ _) (iX12_born_17 (fun h17 => ?_) (fun h17 => ?_)))))
        · exfalso
          simp only [f_in] at *
          grind
        · refine iX12_born_20 (iX12_born_21 ?_)
          first | exact ⟨rfl, rfl, rfl, rfl⟩ | (exfalso; (try simp only [f_in] at *); grind)
  have e5 := hle 5 (by decide)
  refine pair_of (v := w) (v' := w) (I1 := xu (xu (xu (xu I 13 0 t) 14 0 w) 15 0 0) 38 5 (I 38 5 + 1)) (J1 := J) (I2 := xu (xu (xu (xu (xu (xu (xu (xu I 13 0 t) 14 0 w) 15 0 0) 38 5 (I 38 5 + 1)) 64 0 t) 64 1 w) 64 2 0) 82 5 (I 82 5 + 1)) (J2 := J) ?_ ?_ rfl ?_
  · refine specF_of (L := [some (.ref 0), some (.int t), some (.int w)]) (by decide) (Nat.le_of_ble_eq_true rfl) rfl ?_
    refine iX11_born_0 (iX11_born_2 (iX11_born_3 (s_X5_may _ _) (iX11_born_6 (fun h6 => ?_) (fun h6 => ?_))))
    · refine iX11_born_18 (iX11_born_19 ?_)
      first | exact ⟨rfl, rfl, rfl, rfl⟩ | (exfalso; simp only [f_in] at *; grind)
    · refine iX11_born_9 (iX11_born_11 (iX11_born_12 (s_X5_may _ _) (iX11_born_15 (fun h15 => ?_) (fun h15 => ?_))))
      · refine iX11_born_20 (iX11_born_21 (iX11_born_24 (iX11_born_25 (iX11_born_26 (s_X4_bringIn _ _ hB hS) (iX11_born_29 ?_)))))
        first | exact ⟨rfl, rfl, rfl, rfl⟩ | (exfalso; simp only [f_in] at *; grind)
      · refine iX11_born_18 (iX11_born_19 ?_)
        first | exact ⟨rfl, rfl, rfl, rfl⟩ | (exfalso; simp only [f_in] at *; grind)
  · refine specF_of (L := [some (.ref 57), some (.int t), some (.int w)]) (by decide) (Nat.le_of_ble_eq_true rfl) rfl ?_
    refine iX12_born_0 (iX12_born_1 (iX12_born_2 (iX12_born_4 (s_X12_in _ _ _) (iX12_born_7 (fun h7 => ?_) (fun h7 => ?_)))))
    · refine iX12_born_20 (iX12_born_21 ?_)
      first | exact ⟨rfl, rfl, rfl, rfl⟩ | (exfalso; (try simp only [f_in] at *); grind)
    · refine iX12_born_10 (iX12_born_11 (iX12_born_12 (iX12_born_14 (s_X12_in _ _ _) (iX12_born_17 (fun h17 => ?_) (fun h17 => ?_)))))
      · refine iX12_born_22 (iX12_born_23 (iX12_born_26 (iX12_born_27 (iX12_born_28 (vin 4 (by decide) (by decide) (by decide)) (iX12_born_29 (iX12_born_30 (iX12_born_33 (iX12_born_34 (iX12_born_35 (vin 4 (by decide) (by decide) (by decide)) (iX12_born_36 (iX12_born_37 (iX12_born_40 (iX12_born_41 (iX12_born_42 (vin 4 (by decide) (by decide) (by decide)) (iX12_born_43 (iX12_born_44 (iX12_born_47 (iX12_born_48 (iX12_born_49 (vin 6 (by decide) (by decide) (by decide)) (iX12_born_50 (iX12_born_51 (iX12_born_52 (vin 6 (by decide) (by decide) (by decide)) (iX12_born_53 (iX12_born_54 ?_))))))))))))))))))))))))
        first | exact ⟨rfl, rfl, rfl, rfl⟩ | (exfalso; (try simp only [f_in] at *); grind)
      · refine iX12_born_20 (iX12_born_21 ?_)
        first | exact ⟨rfl, rfl, rfl, rfl⟩ | (exfalso; (try simp only [f_in] at *); grind)
  rw [e5]
  refine ⟨?_, ?_, ?_, ?_, ?_, ?_, ?_, ?_, ?_, ?_, ?_⟩
  · simp only [ivHouse, xu] at hh ⊢
    grind
  · intro b hb'
    have := hb b hb'
    simp only [xu]
    grind
  · intro b hb'
    have := hse b hb'
    simp only [xu]
    grind
  · simp only [ivInf, xu] at hin ⊢
    grind
  · exact ivChg_frame hch (by simp [xu_rowf]) (by simp [xu]) (by simp [xu]) (by simp [xu]) (by simp [xu])
  · simp only [ivTape, xu] at hta ⊢
    grind
  · intro b hb'
    have := hle b hb'
    simp only [xu]
    grind
  · simp only [ivImg, xu] at him ⊢
    grind
  · simp only [ivCl, xu] at hcl ⊢
    grind
  · exact ivSh_frame hsh (fun s hs => by simp (disch := omega) only [xu_rowf]) (by simp [xu_rowf]) (by simp [xu_rowf]) (by simp [xu]) (fun _ _ => rfl) rfl
  · exact ivLaw_frame hlw (by simp [lawRows, xu, xu_rowf])
theorem pp_pass : PP_pass Inv := by
  intro I J h q
  obtain ⟨hh, hb, hse, hin, hch, hta, hle, him, hcl, hsh, hlw⟩ := id h
  have hB := hh.2.2.2.1
  have hS := hh.2.2.2.2.2
  obtain ⟨b1, b2, b3, b4, b5, b6, b7, b8, b9, b10⟩ := id hin
  by_cases hbad : q < 1 ∨ 95 < q
  · refine pair_of (v := -1) (v' := -1) (I1 := I) (I2 := I) (J1 := J) (J2 := J) ?_ ?_ rfl h
    · refine specF_of (L := [some (.ref 0), some (.int q)]) (by decide) (Nat.le_of_ble_eq_true rfl) rfl ?_
      refine iX11_pass_0 (iX11_pass_1 (iX11_pass_2 (fun h2 => ?_) (fun h2 => ?_)))
      · refine iX11_pass_11 (iX11_pass_12 ?_)
        first | exact ⟨rfl, rfl, rfl, rfl⟩ | (exfalso; (try simp only [f_in] at *); grind)
      · refine iX11_pass_5 (iX11_pass_6 (iX11_pass_8 (fun h8 => ?_) (fun h8 => ?_)))
        · exfalso
          grind
        · refine iX11_pass_11 (iX11_pass_12 ?_)
          first | exact ⟨rfl, rfl, rfl, rfl⟩ | (exfalso; (try simp only [f_in] at *); grind)
    · refine specF_of (L := [some (.ref 57), some (.int q)]) (by decide) (Nat.le_of_ble_eq_true rfl) rfl ?_
      refine iX12_pass_0 (iX12_pass_1 (iX12_pass_2 (iX12_pass_4 (s_X12_in _ _ _) (iX12_pass_7 (fun h7 => ?_) (fun h7 => ?_)))))
      · refine iX12_pass_12 ?_
        exfalso
        simp only [f_in] at *
        grind
      · refine iX12_pass_10 (iX12_pass_11 ?_)
        first | exact ⟨rfl, rfl, rfl, rfl⟩ | (exfalso; (try simp only [f_in] at *); grind)
  have hm : f_min 95 (I 15 0 + q) = if 95 < I 15 0 + q then 95 else I 15 0 + q := by unfold f_min; grind
  refine pair_of (v := f_min 95 (I 15 0 + q)) (v' := f_min 95 (I 15 0 + q)) (I1 := xu I 15 0 (f_min 95 (I 15 0 + q))) (J1 := J) (I2 := xu (xu I 15 0 (f_min 95 (I 15 0 + q))) 64 2 (f_min 95 (I 15 0 + q))) (J2 := J) ?_ ?_ rfl ?_
  · refine specF_of (L := [some (.ref 0), some (.int q)]) (by decide) (Nat.le_of_ble_eq_true rfl) rfl ?_
    refine iX11_pass_0 (iX11_pass_1 (iX11_pass_2 (fun h2 => ?_) (fun h2 => ?_)))
    · refine iX11_pass_11 (iX11_pass_12 ?_)
      first | exact ⟨rfl, rfl, rfl, rfl⟩ | (exfalso; (try simp only [f_in] at *); grind)
    · refine iX11_pass_5 (iX11_pass_6 (iX11_pass_8 (fun h8 => ?_) (fun h8 => ?_)))
      · refine iX11_pass_13 (iX11_pass_14 (iX11_pass_17 (iX11_pass_18 (s_X4_letPass _ hB hS) (iX11_pass_21 ?_))))
        first | exact ⟨rfl, rfl, rfl, rfl⟩ | (exfalso; (try simp only [f_in] at *); grind)
      · refine iX11_pass_11 (iX11_pass_12 ?_)
        first | exact ⟨rfl, rfl, rfl, rfl⟩ | (exfalso; (try simp only [f_in] at *); grind)
  · refine specF_of (L := [some (.ref 57), some (.int q)]) (by decide) (Nat.le_of_ble_eq_true rfl) rfl ?_
    have e64 : (xu I 15 0 (f_min 95 (I 15 0 + q))) 64 2 = I 15 0 := by simp [xu, b3]
    refine iX12_pass_0 (iX12_pass_1 (iX12_pass_2 (iX12_pass_4 (s_X12_in _ _ _) (iX12_pass_7 (fun h7 => ?_) (fun h7 => ?_)))))
    · refine iX12_pass_12 (iX12_pass_13 (iX12_pass_16 (iX12_pass_17 (iX12_pass_18 (iX12_pass_21 (iX12_pass_22 (vin 4 (by decide) (by decide) (by decide)) (iX12_pass_23 (iX12_pass_24 (iX12_pass_25 (iX12_pass_27 (fun h27 => ?_) (fun h27 => ?_)))))))))))
      · refine iX12_pass_35 (iX12_pass_36 (iX12_pass_39 (iX12_pass_40 (vin 4 (by decide) (by decide) (by decide)) (iX12_pass_41 (iX12_pass_42 (iX12_pass_43 (vin 4 (by decide) (by decide) (by decide)) (iX12_pass_44 (iX12_pass_45 (iX12_pass_48 (iX12_pass_49 (vin 4 (by decide) (by decide) (by decide)) (iX12_pass_50 ?_)))))))))))
        first | (refine ⟨?_, rfl, ?_, rfl⟩ <;> (simp [xu, hm, b3] at * <;> grind)) | (exfalso; (try simp only [f_in] at *); grind)
      · refine iX12_pass_30 (iX12_pass_32 (iX12_pass_43 (vin 4 (by decide) (by decide) (by decide)) (iX12_pass_44 (iX12_pass_45 (iX12_pass_48 (iX12_pass_49 (vin 4 (by decide) (by decide) (by decide)) (iX12_pass_50 ?_)))))))
        first | (refine ⟨?_, rfl, ?_, rfl⟩ <;> (simp [xu, hm, b3] at * <;> grind)) | (exfalso; (try simp only [f_in] at *); grind)
    · refine iX12_pass_10 (iX12_pass_11 ?_)
      first | (refine ⟨?_, rfl, ?_, rfl⟩ <;> (simp [xu, hm, b3] at * <;> grind)) | (exfalso; (try simp only [f_in] at *); grind)
  rw [hm]
  refine ⟨?_, ?_, ?_, ?_, ?_, ?_, ?_, ?_, ?_, ?_, ?_⟩
  · simp only [ivHouse, xu] at hh ⊢
    grind
  · intro b hb'
    have := hb b hb'
    simp only [xu]
    grind
  · intro b hb'
    have := hse b hb'
    simp only [xu]
    grind
  · simp only [ivInf, xu] at hin ⊢
    grind
  · exact ivChg_frame hch (by simp [xu_rowf]) (by simp [xu]) (by simp [xu]) (by simp [xu]) (by simp [xu])
  · simp only [ivTape, xu] at hta ⊢
    grind
  · intro b hb'
    have := hle b hb'
    simp only [xu]
    grind
  · simp only [ivImg, xu] at him ⊢
    grind
  · simp only [ivCl, xu] at hcl ⊢
    grind
  · exact ivSh_frame hsh (fun s hs => by simp (disch := omega) only [xu_rowf]) (by simp [xu_rowf]) (by simp [xu_rowf]) (by simp [xu]) (fun _ _ => rfl) rfl
  · exact ivLaw_frame hlw (by simp [lawRows, xu, xu_rowf])
theorem pp_body : PP_body Inv := by
  intro I J h k
  obtain ⟨hh, hb, hse, hin, hch, hta, hle, him, hcl, hsh, hlw⟩ := id h
  obtain ⟨c1, c2, c3, c4, c5, c6, c7, c8⟩ := id hcl
  by_cases hbad : k < 0 ∨ 7 < k
  · refine pair_of (v := -1) (v' := -1) (I1 := I) (I2 := I) (J1 := J) (J2 := J) ?_ ?_ rfl h
    · refine specF_of (L := [some (.ref 0), some (.int k)]) (by decide) (Nat.le_of_ble_eq_true rfl) rfl ?_
      refine iX11_body_0 (iX11_body_1 (s_X3_isKind _) (iX11_body_4 (fun h4 => ?_) (fun h4 => ?_)))
      · exfalso
        simp only [f_in] at *
        grind
      · refine iX11_body_7 (iX11_body_8 ?_)
        first | exact ⟨rfl, rfl, rfl, rfl⟩ | (exfalso; (try simp only [f_in] at *); grind)
    · refine specF_of (L := [some (.ref 57), some (.int k)]) (by decide) (Nat.le_of_ble_eq_true rfl) rfl ?_
      refine iX12_body_0 (iX12_body_1 (iX12_body_2 (iX12_body_4 (s_X12_in _ _ _) (iX12_body_7 (fun h7 => ?_) (fun h7 => ?_)))))
      · refine iX12_body_12 ?_
        exfalso
        simp only [f_in] at *
        grind
      · refine iX12_body_10 (iX12_body_11 ?_)
        first | exact ⟨rfl, rfl, rfl, rfl⟩ | (exfalso; (try simp only [f_in] at *); grind)
  by_cases hfull : I 41 2 = 50
  · refine pair_of (v := -3) (v' := -3) (I1 := I) (I2 := I) (J1 := J) (J2 := J) ?_ ?_ rfl h
    · refine specF_of (L := [some (.ref 0), some (.int k)]) (by decide) (Nat.le_of_ble_eq_true rfl) rfl ?_
      refine iX11_body_0 (iX11_body_1 (s_X3_isKind _) (iX11_body_4 (fun h4 => ?_) (fun h4 => ?_)))
      · refine iX11_body_9 (iX11_body_10 (iX11_body_13 (iX11_body_14 (s_X3_add_full _ (by grind)) (iX11_body_17 ?_))))
        first | exact ⟨rfl, rfl, rfl, rfl⟩ | (exfalso; (try simp only [f_in] at *); grind)
      · refine iX11_body_7 (iX11_body_8 ?_)
        first | exact ⟨rfl, rfl, rfl, rfl⟩ | (exfalso; (try simp only [f_in] at *); grind)
    · refine specF_of (L := [some (.ref 57), some (.int k)]) (by decide) (Nat.le_of_ble_eq_true rfl) rfl ?_
      refine iX12_body_0 (iX12_body_1 (iX12_body_2 (iX12_body_4 (s_X12_in _ _ _) (iX12_body_7 (fun h7 => ?_) (fun h7 => ?_)))))
      · refine iX12_body_12 (iX12_body_13 (iX12_body_16 (iX12_body_18 (fun h18 => ?_) (fun h18 => ?_))))
        · refine iX12_body_24 ?_
          exfalso
          grind
        · refine iX12_body_21 (iX12_body_23 ?_)
          first | exact ⟨rfl, rfl, rfl, rfl⟩ | (exfalso; (try simp only [f_in] at *); grind)
      · refine iX12_body_10 (iX12_body_11 ?_)
        first | exact ⟨rfl, rfl, rfl, rfl⟩ | (exfalso; (try simp only [f_in] at *); grind)
  have hk : (I 41 2).toNatClampNeg < 50 := clamp_lt' (N := 50) (by decide) c2 (by grind)
  have hv57 : vp_in (I 57 45) 50 := vin 50 (by decide) (by grind) (by grind)
  refine pair_of (v := I 41 2) (v' := I 41 2) (I1 := xu (xu I 42 (I 41 2).toNatClampNeg k) 41 2 (I 41 2 + 1)) (J1 := J) (I2 := xu (xu (xu (xu I 42 (I 41 2).toNatClampNeg k) 41 2 (I 41 2 + 1)) 85 (I 41 2).toNatClampNeg k) 57 45 (I 41 2 + 1)) (J2 := J) ?_ ?_ rfl ?_
  · refine specF_of (L := [some (.ref 0), some (.int k)]) (by decide) (Nat.le_of_ble_eq_true rfl) rfl ?_
    refine iX11_body_0 (iX11_body_1 (s_X3_isKind _) (iX11_body_4 (fun h4 => ?_) (fun h4 => ?_)))
    · refine iX11_body_9 (iX11_body_10 (iX11_body_13 (iX11_body_14 (s_X3_add_ok _ (by grind) (by grind)) (iX11_body_17 ?_))))
      first | exact ⟨rfl, rfl, rfl, rfl⟩ | (exfalso; simp only [f_in] at *; grind)
    · refine iX11_body_7 (iX11_body_8 ?_)
      first | exact ⟨rfl, rfl, rfl, rfl⟩ | (exfalso; simp only [f_in] at *; grind)
  · refine specF_of (L := [some (.ref 57), some (.int k)]) (by decide) (Nat.le_of_ble_eq_true rfl) rfl ?_
    have e57 : (xu (xu I 42 (I 41 2).toNatClampNeg k) 41 2 (I 41 2 + 1)) 57 45 = I 41 2 := by simp [xu, c1]
    refine iX12_body_0 (iX12_body_1 (iX12_body_2 (iX12_body_4 (s_X12_in _ _ _) (iX12_body_7 (fun h7 => ?_) (fun h7 => ?_)))))
    · refine iX12_body_12 (iX12_body_13 (iX12_body_16 (iX12_body_18 (fun h18 => ?_) (fun h18 => ?_))))
      · refine iX12_body_24 (iX12_body_25 (iX12_body_28 (iX12_body_29 (iX12_body_32 (iX12_body_33 hv57 (iX12_body_34 (iX12_body_35 (iX12_body_36 (iX12_body_39 (iX12_body_40 (iX12_body_41 (iX12_body_44 (iX12_body_45 (iX12_body_48 (iX12_body_49 (iX12_body_50 ?_))))))))))))))))
        first | (refine ⟨?_, rfl, ?_, rfl⟩ <;> (simp [xu, c1]; done)) | (exfalso; (try simp only [f_in] at *); grind)
      · refine iX12_body_21 (iX12_body_23 ?_)
        first | (refine ⟨?_, rfl, ?_, rfl⟩ <;> (simp [xu, c1]; done)) | (exfalso; (try simp only [f_in] at *); grind)
    · refine iX12_body_10 (iX12_body_11 ?_)
      first | (refine ⟨?_, rfl, ?_, rfl⟩ <;> (simp [xu, c1]; done)) | (exfalso; (try simp only [f_in] at *); grind)
  generalize (I 41 2).toNatClampNeg = n at hk
  refine ⟨?_, ?_, ?_, ?_, ?_, ?_, ?_, ?_, ?_, ?_, ?_⟩
  · simp only [ivHouse, xu] at hh ⊢
    grind
  · intro b hb'
    have := hb b hb'
    simp only [xu]
    grind
  · intro b hb'
    have := hse b hb'
    simp only [xu]
    grind
  · simp only [ivInf, xu] at hin ⊢
    grind
  · exact ivChg_frame hch (by simp [xu_rowf]) (by simp [xu]) (by simp [xu]) (by simp [xu]) (by simp [xu])
  · simp only [ivTape, xu] at hta ⊢
    grind
  · intro b hb'
    have := hle b hb'
    simp only [xu]
    grind
  · simp only [ivImg, xu] at him ⊢
    grind
  · simp only [ivCl, xu] at hcl ⊢
    grind
  · exact ivSh_frame hsh (fun s hs => by simp (disch := omega) only [xu_rowf]) (by simp [xu_rowf]) (by simp [xu_rowf]) (by simp [xu]; grind) (fun _ _ => rfl) rfl
  · exact ivLaw_frame hlw (by simp [lawRows, xu, xu_rowf])
