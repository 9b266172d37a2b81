theorem m_sml {I0 : xI} {J0 J : xJ} {w1 w2 : Int32} {p : Int32} {lk : Nat → Nat} {I : xI} (hI : Fq I0 I) (hJ0 : Fj J0 J) (hJ : ∀ u : Nat, u < 10 → J 81 u = lN (lk u)) (hlk : ∀ u, lk u ≤ 12 ^ 8) (hp : p = 0 ∨ p = 1) {y : Nat} (hy : y < 10) (h0 : 0 < sml lk 10) : ∀ m v : Nat, v + m = 10 → WP 1000 (1000000, 0, 0) none M_X12_cause (fun r g i j => r = some (.long (frac (lk y) (sml lk 10) p)) ∧ g = xG1 ∧ Fq I0 i ∧ Fj J0 j) 56 [some (.ref 57), some (.int w1), some (.int w2), some (.int p), some (.int (nI y)), some (.long (lN (sml lk v))), none, some (.int (nI v))] [] xG1 I J := by
  have hM := sml_le hlk 10
  intro m
  induction m with
  | zero =>
    intro v hv
    obtain rfl : v = 10 := by omega
    have := hlk y
    refine iX12_cause_56 (iX12_cause_58 (iX12_cause_60 (fun h60 => ?_) (fun h60 => by first | exact absurd (Int32.le_refl _) h60 | exact absurd h60 (Int32.le_refl _))))
    refine iX12_cause_81 (iX12_cause_82 (iX12_cause_85 (iX12_cause_87 (vp_in_nI (by omega) (by omega)) ?_)))
    rw [nI_clamp (by omega), hJ y hy]
    refine iX12_cause_88 (iX12_cause_90 (iX12_cause_91 (s_X12_lowest (by omega) h0 (by omega) p hp) (iX12_cause_94 ?_)))
    exact ⟨rfl, rfl, hI, hJ0⟩
  | succ m ih =>
    intro v hv
    have f5 : ¬ (10 : Int32) ≤ nI v := nI_ge (b := 10) (a := v) (by omega) (by omega)
    have ei : nI v + (1) = nI (v + 1) := nI_1 _
    refine iX12_cause_56 (iX12_cause_58 (iX12_cause_60 (fun h60 => absurd h60 (f5)) (fun h60 => ?_)))
    refine iX12_cause_63 (iX12_cause_65 (iX12_cause_66 (iX12_cause_69 (iX12_cause_71 (vp_in_nI (by omega) (by omega)) (iX12_cause_72 (iX12_cause_73 (iX12_cause_75 (iX12_cause_78 ?_))))))))
    rw [nI_clamp (by omega), hJ v (by omega), lN_add, ei]
    exact ih (v + 1) (by omega)
theorem pp_causes : PP_causes Inv := by
  intro I J h s what
  obtain ⟨nB, nS, ls, w⟩ := Wd.of h
  by_cases hs : f_in s 0 5 = 0
  · refine pair_q (v := -1) h ?_ (fun i j hi hj => ?_)
    · refine spec_of (L := [some (.ref 0), some (.int s), some (.int what), none]) (by decide) (Nat.le_of_ble_eq_true rfl) rfl ?_
      refine iX11_causes_0 (iX11_causes_1 (iX11_causes_2 (s_X11_isShelf _) (iX11_causes_5 (fun h5 => ?_) (fun h5 => by first | exact absurd (hs) h5 | exact absurd h5 (hs)))))
      refine iX11_causes_17 (iX11_causes_18 ?_)
      exact ⟨rfl, rfl, Fq.rf, Fj.rf⟩
    · refine spec_of (L := [some (.ref 57), some (.int s), some (.int what), none, none]) (by decide) (Nat.le_of_ble_eq_true rfl) rfl ?_
      refine iX12_causes_0 (iX12_causes_1 (s_X12_isShelf _) (iX12_causes_4 (fun h4 => ?_) (fun h4 => by first | exact absurd (hs) h4 | exact absurd h4 (hs))))
      refine iX12_causes_16 (iX12_causes_17 ?_)
      exact ⟨rfl, rfl, Fq.rf, Fj.rf⟩
  by_cases hw : f_in what 0 3 = 0
  · have hwn := f_in_n hw
    refine pair_q (v := -1) h ?_ (fun i j hi hj => ?_)
    · refine spec_of (L := [some (.ref 0), some (.int s), some (.int what), none]) (by decide) (Nat.le_of_ble_eq_true rfl) rfl ?_
      refine iX11_causes_0 (iX11_causes_1 (iX11_causes_2 (s_X11_isShelf _) (iX11_causes_5 (fun h5 => absurd h5 (hs)) (fun h5 => ?_))))
      refine iX11_causes_8 (iX11_causes_9 (fun h9 => ?_) (fun h9 => ?_))
      · refine iX11_causes_17 (iX11_causes_18 ?_)
        exact ⟨rfl, rfl, Fq.rf, Fj.rf⟩
      · refine iX11_causes_12 (iX11_causes_13 (iX11_causes_14 (fun h14 => ?_) (fun h14 => ?_)))
        · exfalso
          grind
        · refine iX11_causes_17 (iX11_causes_18 ?_)
          exact ⟨rfl, rfl, Fq.rf, Fj.rf⟩
    · refine spec_of (L := [some (.ref 57), some (.int s), some (.int what), none, none]) (by decide) (Nat.le_of_ble_eq_true rfl) rfl ?_
      refine iX12_causes_0 (iX12_causes_1 (s_X12_isShelf _) (iX12_causes_4 (fun h4 => absurd h4 (hs)) (fun h4 => ?_)))
      refine iX12_causes_7 (iX12_causes_8 (iX12_causes_9 (iX12_causes_10 (s_X12_in _ _ _) (iX12_causes_13 (fun h13 => absurd h13 (fun z => z hw)) (fun h13 => ?_)))))
      refine iX12_causes_16 (iX12_causes_17 ?_)
      exact ⟨rfl, rfl, Fq.rf, Fj.rf⟩
  have hwp := f_in_p hw
  have n9 : ¬ what < 0 := by grind
  have n14 : what ≤ 3 := hwp.2
  obtain ⟨k, hk, rfl⟩ := shelf_of hs
  have hsx := xSh_at hk
  have hvs : vp_in (nI k) 6 := vp_in_nI hk (by omega)
  have hka : xr xG1 44 (nI k).toNatClampNeg = some (45 + 2 * k) := by rw [nI_clamp (by omega)]; exact (shelf_at hk).1
  by_cases hr : f_refB I (45 + 2 * k) = 0
  · obtain ⟨L, Bf, R⟩ := Rw.of h hk hr
    have four := what4 hw
    have hT : ∃ T : Bool, (what < 2 ↔ T = true) := by
      rcases four with rfl | rfl | rfl | rfl
      · exact ⟨true, by decide⟩
      · exact ⟨true, by decide⟩
      · exact ⟨false, by decide⟩
      · exact ⟨false, by decide⟩
    obtain ⟨T, hT⟩ := hT
    have hlk : ∀ u, lkF I ls Bf L nB nS T u ≤ 12 ^ 8 := fun u => lkF_lt
    have sw := s_X1_weigh w R T
    refine pair_q (v := if what - what / 2 * 2 = 0 then psb (lkF I ls Bf L nB nS T) 10 else oN (lik (lkF I ls Bf L nB nS T) 10).1) h ?_ (fun i j hi hj => ?_)
    · refine spec_of (L := [some (.ref 0), some (.int (nI k)), some (.int what), none]) (by decide) (Nat.le_of_ble_eq_true rfl) rfl ?_
      have tail : WP 1000 (1000000, 0, 0) none M_X11_causes (fun r g i j => r = some (.int (if what - what / 2 * 2 = 0 then psb (lkF I ls Bf L nB nS T) 10 else oN (lik (lkF I ls Bf L nB nS T) 10).1)) ∧ g = xG1 ∧ Fq I i ∧ Fj J j) 57 [some (.ref 0), some (.int (nI k)), some (.int what), some (.int (f_refB I (45 + 2 * k)))] [.int (if T = true then 6 else 7), .ref (45 + 2 * k), .ref 32] xG1 I J := by
        refine jX11_causes_57 sw (fun r57 g57 I57 J57 hq => ?_)
        obtain ⟨rfl, rfl, hq3, hq4, hq5⟩ := hq
        refine iX11_causes_60 (iX11_causes_61 (iX11_causes_62 (by decide) (iX11_causes_63 (fun h63 => ?_) (fun h63 => ?_))))
        · refine iX11_causes_76 (iX11_causes_77 (iX11_causes_80 (s_X1_likeliest hq5 hlk) (iX11_causes_83 ?_)))
          refine ⟨?_, rfl, Fq.of hq3 (by decide), Fj.of hq4 (by decide)⟩
          first | rw [if_neg ‹_›] | rw [if_pos (Decidable.not_not.mp ‹_›)] | rw [if_pos ‹_›]
        · refine iX11_causes_66 (iX11_causes_67 (iX11_causes_70 (s_X1_possible hq5 hlk) (iX11_causes_73 (iX11_causes_83 ?_))))
          refine ⟨?_, rfl, Fq.of hq3 (by decide), Fj.of hq4 (by decide)⟩
          first | rw [if_neg ‹_›] | rw [if_pos (Decidable.not_not.mp ‹_›)] | rw [if_pos ‹_›]
      refine iX11_causes_0 (iX11_causes_1 (iX11_causes_2 (s_X11_isShelf _) (iX11_causes_5 (fun h5 => absurd h5 (hs)) (fun h5 => ?_))))
      refine iX11_causes_8 (iX11_causes_9 (fun h9 => absurd h9 (n9)) (fun h9 => ?_))
      refine iX11_causes_12 (iX11_causes_13 (iX11_causes_14 (fun h14 => ?_) (fun h14 => by first | exact absurd (n14) h14 | exact absurd h14 (n14))))
      refine iX11_causes_19 (iX11_causes_20 (iX11_causes_23 (iX11_causes_24 hvs hka (iX11_causes_25 hsx.1 (s_X9_refusalOfBytes hsx) (iX11_causes_28 (iX11_causes_29 (iX11_causes_30 (fun h30 => ?_) (fun h30 => by first | exact absurd (hr) h30 | exact absurd h30 (hr)))))))))
      refine iX11_causes_35 (iX11_causes_36 (iX11_causes_39 (iX11_causes_40 (iX11_causes_43 (iX11_causes_44 hvs hka (iX11_causes_45 (iX11_causes_46 (iX11_causes_47 (fun h47 => ?_) (fun h47 => ?_)))))))))
      · refine iX11_causes_55 ?_
        first | (rw [if_pos (hT.mp (by grind))] at tail; exact tail) | (rw [if_neg (fun z => absurd (hT.mpr z) (by grind))] at tail; exact tail)
      · refine iX11_causes_50 (iX11_causes_52 ?_)
        first | (rw [if_pos (hT.mp (by grind))] at tail; exact tail) | (rw [if_neg (fun z => absurd (hT.mpr z) (by grind))] at tail; exact tail)
    · have wi := w.fr hi
      have R2 := R.fr hi hj
      have hinv := inv_scr h hi hj
      have srf := s_X12_rowFault hinv hk
      rw [refB_fr hk hi, hr] at srf
      have sl := s_X12_layChances wi R2 T
      rw [lkF_fr hi] at sl
      refine spec_of (L := [some (.ref 57), some (.int (nI k)), some (.int what), none, none]) (by decide) (Nat.le_of_ble_eq_true rfl) rfl ?_
      have tail : WP 1000 (1000000, 0, 0) none M_X12_causes (fun r g i' j' => r = some (.int (if what - what / 2 * 2 = 0 then psb (lkF I ls Bf L nB nS T) 10 else oN (lik (lkF I ls Bf L nB nS T) 10).1)) ∧ g = xG1 ∧ Fq i i' ∧ Fj j j') 44 [some (.ref 57), some (.int (nI k)), some (.int what), none, none] [.int (if T = true then 1 else 0), .int (nI k), .ref 57] xG1 i j := by
        have m2 : what - what / 2 * 2 = 0 ∨ what - what / 2 * 2 = 1 := by
          rcases four with rfl | rfl | rfl | rfl <;> decide
        refine jX12_causes_44 sl (fun r44 g44 I44 J44 hq => ?_)
        obtain ⟨rfl, rfl, hq3, hq4, hq5⟩ := hq
        refine iX12_causes_47 (iX12_causes_48 (iX12_causes_49 (by decide) (iX12_causes_50 (iX12_causes_51 (fun h51 => ?_) (fun h51 => ?_)))))
        · refine iX12_causes_59 (iX12_causes_60 (iX12_causes_61 (iX12_causes_62 ?_)))
          have e : what - what / 2 * 2 = 0 := by grind
          rw [if_pos e]
          exact m_psb (Fq.of hq3 (by decide)) (Fj.of hq4 (by decide)) hq5 hlk 10 0 (by omega)
        · refine iX12_causes_54 (iX12_causes_55 (s_X12_likeliest hq5 hlk) (iX12_causes_58 ?_))
          refine ⟨?_, rfl, Fq.of hq3 (by decide), Fj.of hq4 (by decide)⟩
          rw [if_neg (by grind)]
      refine iX12_causes_0 (iX12_causes_1 (s_X12_isShelf _) (iX12_causes_4 (fun h4 => absurd h4 (hs)) (fun h4 => ?_)))
      refine iX12_causes_7 (iX12_causes_8 (iX12_causes_9 (iX12_causes_10 (s_X12_in _ _ _) (iX12_causes_13 (fun h13 => ?_) (fun h13 => by first | exact absurd (hw) h13 | exact absurd h13 (hw))))))
      refine iX12_causes_18 (iX12_causes_19 (iX12_causes_20 srf (iX12_causes_23 (fun h23 => ?_) (fun h23 => by first | exact absurd (Int32.le_refl _) h23 | exact absurd h23 (Int32.le_refl _)))))
      refine iX12_causes_32 (iX12_causes_33 (iX12_causes_34 (iX12_causes_35 (iX12_causes_36 (fun h36 => ?_) (fun h36 => ?_)))))
      · refine iX12_causes_43 ?_
        first | (rw [if_pos (hT.mp (by grind))] at tail; exact tail) | (rw [if_neg (fun z => absurd (hT.mpr z) (by grind))] at tail; exact tail)
      · refine iX12_causes_39 (iX12_causes_40 ?_)
        first | (rw [if_pos (hT.mp (by grind))] at tail; exact tail) | (rw [if_neg (fun z => absurd (hT.mpr z) (by grind))] at tail; exact tail)
  · refine pair_q (v := f_refB I (45 + 2 * k)) h ?_ (fun i j hi hj => ?_)
    · refine spec_of (L := [some (.ref 0), some (.int (nI k)), some (.int what), none]) (by decide) (Nat.le_of_ble_eq_true rfl) rfl ?_
      refine iX11_causes_0 (iX11_causes_1 (iX11_causes_2 (s_X11_isShelf _) (iX11_causes_5 (fun h5 => absurd h5 (hs)) (fun h5 => ?_))))
      refine iX11_causes_8 (iX11_causes_9 (fun h9 => absurd h9 (n9)) (fun h9 => ?_))
      refine iX11_causes_12 (iX11_causes_13 (iX11_causes_14 (fun h14 => ?_) (fun h14 => by first | exact absurd (n14) h14 | exact absurd h14 (n14))))
      refine iX11_causes_19 (iX11_causes_20 (iX11_causes_23 (iX11_causes_24 hvs hka (iX11_causes_25 hsx.1 (s_X9_refusalOfBytes hsx) (iX11_causes_28 (iX11_causes_29 (iX11_causes_30 (fun h30 => absurd h30 (hr)) (fun h30 => ?_))))))))
      refine iX11_causes_33 (iX11_causes_34 ?_)
      exact ⟨rfl, rfl, Fq.rf, Fj.rf⟩
    · have srf := s_X12_rowFault (inv_scr h hi hj) hk
      rw [refB_fr hk hi] at srf
      have n23 : ¬ 0 ≤ f_refB I (45 + 2 * k) := by
        rcases refB_cases (I := I) (a := 45 + 2 * k) with e | e | e
        · exact absurd e hr
        · rw [e]; decide
        · rw [e]; decide
      refine spec_of (L := [some (.ref 57), some (.int (nI k)), some (.int what), none, none]) (by decide) (Nat.le_of_ble_eq_true rfl) rfl ?_
      refine iX12_causes_0 (iX12_causes_1 (s_X12_isShelf _) (iX12_causes_4 (fun h4 => absurd h4 (hs)) (fun h4 => ?_)))
      refine iX12_causes_7 (iX12_causes_8 (iX12_causes_9 (iX12_causes_10 (s_X12_in _ _ _) (iX12_causes_13 (fun h13 => ?_) (fun h13 => by first | exact absurd (hw) h13 | exact absurd h13 (hw))))))
      refine iX12_causes_18 (iX12_causes_19 (iX12_causes_20 srf (iX12_causes_23 (fun h23 => absurd h23 (n23)) (fun h23 => ?_))))
      refine iX12_causes_26 (iX12_causes_27 (iX12_causes_28 srf (iX12_causes_31 ?_)))
      exact ⟨rfl, rfl, Fq.rf, Fj.rf⟩
theorem s_X12_mayAsk {I : xI} {J : xJ} (h : Inv I J) {k : Nat} (hk : k < 6) (p : Int32) : SpecF 2 M_X12_mayAsk [.ref 57, .int (nI k), .int p] xG1 I J (some (.int (if f_in p 0 1 = 0 then 0 else if f_refB I (45 + 2 * k) = 0 then 1 else 0))) I J := by
  refine specF_of (L := [some (.ref 57), some (.int (nI k)), some (.int p)]) (by decide) (Nat.le_of_ble_eq_true rfl) rfl ?_
  have hs : ¬ f_in (nI k) 0 5 = 0 := by rw [f_in_1 (v := nI k) (a := 0) (b := 5) (nI_pos' (by omega)) (nI_le (b := 5) (by omega) (by omega))]; decide
  have hc := refB_cases (I := I) (a := 45 + 2 * k)
  refine iX12_mayAsk_0 (iX12_mayAsk_1 (s_X12_isShelf _) (iX12_mayAsk_4 (fun h4 => absurd h4 (hs)) (fun h4 => ?_)))
  refine iX12_mayAsk_7 (iX12_mayAsk_8 (iX12_mayAsk_9 (iX12_mayAsk_10 (s_X12_in _ _ _) (iX12_mayAsk_13 (fun h13 => ?_) (fun h13 => ?_)))))
  · refine iX12_mayAsk_28 (iX12_mayAsk_29 ?_)
    refine ⟨congrArg (fun z => some (Value.int z)) ?_, rfl, rfl, rfl⟩
    grind
  · refine iX12_mayAsk_16 (iX12_mayAsk_17 (iX12_mayAsk_18 (s_X12_rowFault h hk) (iX12_mayAsk_21 (fun h21 => ?_) (fun h21 => ?_))))
    · refine iX12_mayAsk_28 (iX12_mayAsk_29 ?_)
      refine ⟨congrArg (fun z => some (Value.int z)) ?_, rfl, rfl, rfl⟩
      grind
    · refine iX12_mayAsk_24 (iX12_mayAsk_25 (iX12_mayAsk_29 ?_))
      refine ⟨congrArg (fun z => some (Value.int z)) ?_, rfl, rfl, rfl⟩
      grind
theorem s_X12_mayAsk_no {I : xI} {J : xJ} {s : Int32} (hs : f_in s 0 5 = 0) (p : Int32) : SpecF 2 M_X12_mayAsk [.ref 57, .int s, .int p] xG1 I J (some (.int 0)) I J := by
  refine specF_of (L := [some (.ref 57), some (.int s), some (.int p)]) (by decide) (Nat.le_of_ble_eq_true rfl) rfl ?_
  refine iX12_mayAsk_0 (iX12_mayAsk_1 (s_X12_isShelf _) (iX12_mayAsk_4 (fun h4 => ?_) (fun h4 => by first | exact absurd (hs) h4 | exact absurd h4 (hs))))
  refine iX12_mayAsk_28 (iX12_mayAsk_29 ?_)
  exact ⟨rfl, rfl, rfl, rfl⟩
theorem pp_cause : PP_cause Inv := by
  intro I J h s what p
  obtain ⟨nB, nS, ls, w⟩ := Wd.of h
  by_cases hs : f_in s 0 5 = 0
  · refine pairJ_q (v := -9223372036854775808) h ?_ (fun i j hi hj => ?_)
    · refine spec_of (L := [some (.ref 0), some (.int s), some (.int what), some (.int p)]) (by decide) (Nat.le_of_ble_eq_true rfl) rfl ?_
      refine iX11_cause_0 (iX11_cause_1 (iX11_cause_2 (s_X11_isShelf _) (iX11_cause_5 (fun h5 => ?_) (fun h5 => by first | exact absurd (hs) h5 | exact absurd h5 (hs)))))
      refine iX11_cause_22 (iX11_cause_25 ?_)
      exact ⟨rfl, rfl, Fq.rf, Fj.rf⟩
    · refine spec_of (L := [some (.ref 57), some (.int s), some (.int what), some (.int p), none, none, none, none]) (by decide) (Nat.le_of_ble_eq_true rfl) rfl ?_
      refine iX12_cause_0 (iX12_cause_1 (iX12_cause_2 (iX12_cause_3 (s_X12_mayAsk_no hs p) (iX12_cause_6 (fun h6 => ?_) (fun h6 => by first | exact absurd (rfl) h6 | exact absurd h6 (rfl))))))
      refine iX12_cause_18 (iX12_cause_21 ?_)
      exact ⟨rfl, rfl, Fq.rf, Fj.rf⟩
  obtain ⟨k, hk, rfl⟩ := shelf_of hs
  have hsx := xSh_at hk
  have hvs : vp_in (nI k) 6 := vp_in_nI hk (by omega)
  have hka : xr xG1 44 (nI k).toNatClampNeg = some (45 + 2 * k) := by rw [nI_clamp (by omega)]; exact (shelf_at hk).1
  by_cases hbad : f_in what 0 1 = 0 ∨ f_in p 0 1 = 0 ∨ ¬ f_refB I (45 + 2 * k) = 0
  · refine pairJ_q (v := -9223372036854775808) h ?_ (fun i j hi hj => ?_)
    · refine spec_of (L := [some (.ref 0), some (.int (nI k)), some (.int what), some (.int p)]) (by decide) (Nat.le_of_ble_eq_true rfl) rfl ?_
      refine iX11_cause_0 (iX11_cause_1 (iX11_cause_2 (s_X11_isShelf _) (iX11_cause_5 (fun h5 => absurd h5 (hs)) (fun h5 => ?_))))
      refine iX11_cause_8 (iX11_cause_9 (s_X11_isPart _) (iX11_cause_12 (fun h12 => ?_) (fun h12 => ?_)))
      · refine iX11_cause_22 (iX11_cause_25 ?_)
        exact ⟨rfl, rfl, Fq.rf, Fj.rf⟩
      · refine iX11_cause_15 (iX11_cause_16 (s_X11_isPart _) (iX11_cause_19 (fun h19 => ?_) (fun h19 => ?_)))
        · refine iX11_cause_26 (iX11_cause_27 (iX11_cause_30 (iX11_cause_31 hvs hka (iX11_cause_32 hsx.1 (s_X9_refusalOfBytes hsx) (iX11_cause_35 (fun h35 => ?_) (fun h35 => ?_))))))
          · exfalso
            grind
          · refine iX11_cause_38 (iX11_cause_41 ?_)
            exact ⟨rfl, rfl, Fq.rf, Fj.rf⟩
        · refine iX11_cause_22 (iX11_cause_25 ?_)
          exact ⟨rfl, rfl, Fq.rf, Fj.rf⟩
    · have sa := s_X12_mayAsk (inv_scr h hi hj) hk p
      rw [refB_fr hk hi] at sa
      refine spec_of (L := [some (.ref 57), some (.int (nI k)), some (.int what), some (.int p), none, none, none, none]) (by decide) (Nat.le_of_ble_eq_true rfl) rfl ?_
      refine iX12_cause_0 (iX12_cause_1 (iX12_cause_2 (iX12_cause_3 sa (iX12_cause_6 (fun h6 => ?_) (fun h6 => ?_)))))
      · refine iX12_cause_18 (iX12_cause_21 ?_)
        exact ⟨rfl, rfl, Fq.rf, Fj.rf⟩
      · refine iX12_cause_9 (iX12_cause_10 (iX12_cause_11 (iX12_cause_12 (s_X12_in _ _ _) (iX12_cause_15 (fun h15 => ?_) (fun h15 => ?_)))))
        · exfalso
          grind
        · refine iX12_cause_18 (iX12_cause_21 ?_)
          exact ⟨rfl, rfl, Fq.rf, Fj.rf⟩
  have hw : ¬ f_in what 0 1 = 0 := fun z => hbad (Or.inl z)
  have hpp : ¬ f_in p 0 1 = 0 := fun z => hbad (Or.inr (Or.inl z))
  have hr : f_refB I (45 + 2 * k) = 0 := Decidable.byContradiction fun z => hbad (Or.inr (Or.inr z))
  have hp := part_01 hpp
  obtain ⟨L, Bf, R⟩ := Rw.of h hk hr
  have hT : ∃ T : Bool, (what = 0 ↔ T = true) := by
    by_cases q : what = 0
    · exact ⟨true, fun _ => rfl, fun _ => q⟩
    · exact ⟨false, fun z => absurd z q, fun z => by cases z⟩
  obtain ⟨T, hT⟩ := hT
  have hlk : ∀ u, lkF I ls Bf L nB nS T u ≤ 12 ^ 8 := fun u => lkF_lt
  have sw := s_X1_weigh w R T
  have hM := sml_le hlk 10
  generalize hlkE : lkF I ls Bf L nB nS T = lk at hlk sw hM
  have h2 := lik_2 hlk 10
  have hmx : f_maxl 1 (lN (sml lk 10)) = lN (max 1 (sml lk 10)) := by
    unfold f_maxl
    by_cases q : 1 < sml lk 10
    · rw [if_pos (show (1 : Int64) < lN (sml lk 10) from (pk_lLT (a := 1) (by decide) (by omega)).mpr q), Nat.max_eq_right (by omega)]
    · rw [if_neg (show ¬ (1 : Int64) < lN (sml lk 10) from fun z => q ((pk_lLT (a := 1) (by decide) (by omega)).mp z)), Nat.max_eq_left (by omega)]
      rfl
  refine pairJ_q (v := frac (lik lk 10).2 (max 1 (sml lk 10)) p) h ?_ (fun i j hi hj => ?_)
  · refine spec_of (L := [some (.ref 0), some (.int (nI k)), some (.int what), some (.int p)]) (by decide) (Nat.le_of_ble_eq_true rfl) rfl ?_
    have tail : WP 1000 (1000000, 0, 0) none M_X11_cause (fun r g i j => r = some (.long (frac (lik lk 10).2 (max 1 (sml lk 10)) p)) ∧ g = xG1 ∧ Fq I i ∧ Fj J j) 63 [some (.ref 0), some (.int (nI k)), some (.int what), some (.int p)] [.int (if T = true then 6 else 7), .ref (45 + 2 * k), .ref 32] xG1 I J := by
      refine jX11_cause_63 sw (fun r63 g63 I63 J63 hq => ?_)
      obtain ⟨rfl, rfl, hq3, hq4, hq5⟩ := hq
      refine iX11_cause_66 (iX11_cause_67 (iX11_cause_70 (s_X1_most hq5 hlk) (iX11_cause_73 (iX11_cause_74 (iX11_cause_75 (iX11_cause_78 (s_X1_together hq5) (iX11_cause_81 (s_J9_maxl _ _) ?_)))))))
      rw [hmx]
      refine iX11_cause_84 (iX11_cause_85 (s_X11_partOf (by omega) (by omega) (by omega) p) (iX11_cause_88 ?_))
      exact ⟨rfl, rfl, Fq.of hq3 (by decide), Fj.of hq4 (by decide)⟩
    refine iX11_cause_0 (iX11_cause_1 (iX11_cause_2 (s_X11_isShelf _) (iX11_cause_5 (fun h5 => absurd h5 (hs)) (fun h5 => ?_))))
    refine iX11_cause_8 (iX11_cause_9 (s_X11_isPart _) (iX11_cause_12 (fun h12 => absurd h12 (hw)) (fun h12 => ?_)))
    refine iX11_cause_15 (iX11_cause_16 (s_X11_isPart _) (iX11_cause_19 (fun h19 => ?_) (fun h19 => by first | exact absurd (hpp) h19 | exact absurd h19 (hpp))))
    refine iX11_cause_26 (iX11_cause_27 (iX11_cause_30 (iX11_cause_31 hvs hka (iX11_cause_32 hsx.1 (s_X9_refusalOfBytes hsx) (iX11_cause_35 (fun h35 => ?_) (fun h35 => by first | exact absurd (hr) h35 | exact absurd h35 (hr)))))))
    refine iX11_cause_42 (iX11_cause_43 (iX11_cause_46 (iX11_cause_47 (iX11_cause_50 (iX11_cause_51 hvs hka (iX11_cause_52 (iX11_cause_53 (fun h53 => ?_) (fun h53 => ?_))))))))
    · refine iX11_cause_61 ?_
      first | (rw [if_pos (hT.mp ‹_›)] at tail; exact tail) | (rw [if_pos (hT.mp (Decidable.not_not.mp ‹_›))] at tail; exact tail) | (rw [if_neg (fun z => absurd (hT.mpr z) ‹_›)] at tail; exact tail)
    · refine iX11_cause_56 (iX11_cause_58 ?_)
      first | (rw [if_pos (hT.mp ‹_›)] at tail; exact tail) | (rw [if_pos (hT.mp (Decidable.not_not.mp ‹_›))] at tail; exact tail) | (rw [if_neg (fun z => absurd (hT.mpr z) ‹_›)] at tail; exact tail)
  · have wi := w.fr hi
    have R2 := R.fr hi hj
    have sa := s_X12_mayAsk (inv_scr h hi hj) hk p
    rw [refB_fr hk hi, if_neg hpp, if_pos hr] at sa
    have sl := s_X12_layChances wi R2 T
    rw [lkF_fr hi, hlkE] at sl
    refine spec_of (L := [some (.ref 57), some (.int (nI k)), some (.int what), some (.int p), none, none, none, none]) (by decide) (Nat.le_of_ble_eq_true rfl) rfl ?_
    have tail : WP 1000 (1000000, 0, 0) none M_X12_cause (fun r g i' j' => r = some (.long (frac (lik lk 10).2 (max 1 (sml lk 10)) p)) ∧ g = xG1 ∧ Fq i i' ∧ Fj j j') 33 [some (.ref 57), some (.int (nI k)), some (.int what), some (.int p), none, none, none, none] [.int (if T = true then 1 else 0), .int (nI k), .ref 57] xG1 i j := by
      rcases lik_ok (lk := lk) 10 with ⟨r1, r2, r3⟩ | ⟨y, r1, r2, r3, r4, r5⟩
      · refine jX12_cause_33 sl (fun r33 g33 I33 J33 hq => ?_)
        obtain ⟨rfl, rfl, hq3, hq4, hq5⟩ := hq
        refine iX12_cause_36 (iX12_cause_37 (s_X12_likeliest hq5 hlk) ?_)
        rw [r1]
        refine iX12_cause_40 (iX12_cause_42 (iX12_cause_44 (fun h44 => absurd h44 ((by decide : ¬ 0 ≤ oN none))) (fun h44 => ?_)))
        refine iX12_cause_47 (iX12_cause_48 (iX12_cause_49 ?_))
        refine ⟨?_, rfl, Fq.of hq3 (by decide), Fj.of hq4 (by decide)⟩
        rw [r2, r3]
        rcases hp with rfl | rfl <;> rfl
      · have em : max 1 (sml lk 10) = sml lk 10 := Nat.max_eq_right (by omega)
        have t44 : 0 ≤ oN (some y) := nI_pos' (n := y) (by omega)
        rw [em, r3]
        refine jX12_cause_33 sl (fun r33 g33 I33 J33 hq => ?_)
        obtain ⟨rfl, rfl, hq3, hq4, hq5⟩ := hq
        refine iX12_cause_36 (iX12_cause_37 (s_X12_likeliest hq5 hlk) ?_)
        rw [r1]
        refine iX12_cause_40 (iX12_cause_42 (iX12_cause_44 (fun h44 => ?_) (fun h44 => by first | exact absurd (t44) h44 | exact absurd h44 (t44))))
        refine iX12_cause_50 (iX12_cause_51 (iX12_cause_53 (iX12_cause_54 ?_)))
        exact m_sml (Fq.of hq3 (by decide)) (Fj.of hq4 (by decide)) hq5 hlk hp r2 (by omega) 10 0 (by omega)
    refine iX12_cause_0 (iX12_cause_1 (iX12_cause_2 (iX12_cause_3 sa (iX12_cause_6 (fun h6 => absurd h6 ((by decide))) (fun h6 => ?_)))))
    refine iX12_cause_9 (iX12_cause_10 (iX12_cause_11 (iX12_cause_12 (s_X12_in _ _ _) (iX12_cause_15 (fun h15 => ?_) (fun h15 => by first | exact absurd (hw) h15 | exact absurd h15 (hw))))))
    refine iX12_cause_22 (iX12_cause_23 (iX12_cause_24 (iX12_cause_25 (fun h25 => ?_) (fun h25 => ?_))))
    · refine iX12_cause_32 ?_
      first | (rw [if_pos (hT.mp ‹_›)] at tail; exact tail) | (rw [if_pos (hT.mp (Decidable.not_not.mp ‹_›))] at tail; exact tail) | (rw [if_neg (fun z => absurd (hT.mpr z) ‹_›)] at tail; exact tail)
    · refine iX12_cause_28 (iX12_cause_29 ?_)
      first | (rw [if_pos (hT.mp ‹_›)] at tail; exact tail) | (rw [if_pos (hT.mp (Decidable.not_not.mp ‹_›))] at tail; exact tail) | (rw [if_neg (fun z => absurd (hT.mpr z) ‹_›)] at tail; exact tail)
