/-! ===== mend, undo, redo ===== -/
def mrow (w : Int32) : Nat := if w = 0 then 58 else if w = 1 then 59 else if w = 2 then 60 else if w = 3 then 61 else if w = 4 then 62 else if w = 5 then 63 else 64
def mcol (w n : Int32) : Nat := if w < 6 then n.toNatClampNeg else (w - 6).toNatClampNeg
theorem has_cases {I : xI} {n w : Int32} (h : f_has I n w = 1) (hB : I 1 2 ≤ 10) (hS : I 1 3 ≤ 6) : 0 ≤ n ∧ ((w = 0 ∨ w = 1 ∨ w = 2 ∨ w = 3) ∧ n < 10 ∧ n < I 1 2 ∨ (w = 4 ∨ w = 5) ∧ n < 6 ∧ n < I 1 3 ∨ (w = 6 ∨ w = 7 ∨ w = 8 ∨ w = 9) ∧ n = 0) := by
  unfold f_has at h
  by_cases h0 : w < 0 ∨ 9 < w ∨ n < 0
  · rw [if_pos h0] at h; exact absurd h (by decide)
  rw [if_neg h0] at h
  refine ⟨by grind, ?_⟩
  by_cases h1 : w ≤ 3
  · rw [if_pos h1] at h; left; refine ⟨by grind, by grind, by grind⟩
  rw [if_neg h1] at h
  by_cases h5 : w ≤ 5
  · rw [if_pos h5] at h; right; left; refine ⟨by grind, by grind, by grind⟩
  rw [if_neg h5] at h
  right; right; refine ⟨by grind, by grind⟩
section
variable {I : xI} {J : xJ}
theorem s_X12_valueAt' (w n : Int32) (hhas : f_has I n w = 1) (hB : I 1 2 ≤ 10) (hS : I 1 3 ≤ 6) : SpecF 0 M_X12_valueAt [.ref 57, .int w, .int n] xG1 I J (some (.int (I (mrow w) (mcol w n)))) I J := by
  obtain ⟨hn, hc⟩ := has_cases hhas hB hS
  refine specF_of (L := [some (.ref 57), some (.int w), some (.int n)]) (by decide) (Nat.le_of_ble_eq_true rfl) rfl ?_
  refine iX12_valueAt_0 (iX12_valueAt_1 (fun h1 => ?_) (fun h1 => ?_) (fun h1 => ?_) (fun h1 => ?_) (fun h1 => ?_) (fun h1 => ?_) (fun h1_0 h1_1 h1_2 h1_3 h1_4 h1_5 => ?_))
  · refine iX12_valueAt_40 (iX12_valueAt_41 (iX12_valueAt_44 (iX12_valueAt_45 (vin 10 (by decide) (by grind) (by grind)) (iX12_valueAt_46 ?_))))
    subst h1
    exact ⟨rfl, rfl, rfl, rfl⟩
  · refine iX12_valueAt_47 (iX12_valueAt_48 (iX12_valueAt_51 (iX12_valueAt_52 (vin 10 (by decide) (by grind) (by grind)) (iX12_valueAt_53 ?_))))
    subst h1
    exact ⟨rfl, rfl, rfl, rfl⟩
  · refine iX12_valueAt_54 (iX12_valueAt_55 (iX12_valueAt_58 (iX12_valueAt_59 (vin 10 (by decide) (by grind) (by grind)) (iX12_valueAt_60 ?_))))
    subst h1
    exact ⟨rfl, rfl, rfl, rfl⟩
  · refine iX12_valueAt_61 (iX12_valueAt_62 (iX12_valueAt_65 (iX12_valueAt_66 (vin 10 (by decide) (by grind) (by grind)) (iX12_valueAt_67 ?_))))
    subst h1
    exact ⟨rfl, rfl, rfl, rfl⟩
  · refine iX12_valueAt_68 (iX12_valueAt_69 (iX12_valueAt_72 (iX12_valueAt_73 (vin 6 (by decide) (by grind) (by grind)) (iX12_valueAt_74 ?_))))
    subst h1
    exact ⟨rfl, rfl, rfl, rfl⟩
  · refine iX12_valueAt_75 (iX12_valueAt_76 (iX12_valueAt_79 (iX12_valueAt_80 (vin 6 (by decide) (by grind) (by grind)) (iX12_valueAt_81 ?_))))
    subst h1
    exact ⟨rfl, rfl, rfl, rfl⟩
  · have hw : w = 6 ∨ w = 7 ∨ w = 8 ∨ w = 9 := by grind
    have e1 : mrow w = 64 := by rcases hw with rfl | rfl | rfl | rfl <;> rfl
    have e2 : mcol w n = (w - 6).toNatClampNeg := by rcases hw with rfl | rfl | rfl | rfl <;> rfl
    have e3 : vp_in (w - 6) 4 := by rcases hw with rfl | rfl | rfl | rfl <;> exact vin 4 (by decide) (by decide) (by decide)
    refine iX12_valueAt_82 (iX12_valueAt_83 (iX12_valueAt_86 (iX12_valueAt_87 (iX12_valueAt_89 (iX12_valueAt_90 e3 (iX12_valueAt_91 ?_))))))
    rw [e1, e2]
    exact ⟨rfl, rfl, rfl, rfl⟩
theorem s_X12_lays (w n v : Int32) (hhas : f_has I n w = 1) (hB : I 1 2 ≤ 10) (hS : I 1 3 ≤ 6) : SpecF 0 M_X12_lays [.ref 57, .int w, .int n, .int v] xG1 I J none (xu I (mrow w) (mcol w n) v) J := by
  obtain ⟨hn, hc⟩ := has_cases hhas hB hS
  refine specF_of (L := [some (.ref 57), some (.int w), some (.int n), some (.int v)]) (by decide) (Nat.le_of_ble_eq_true rfl) rfl ?_
  refine iX12_lays_0 (iX12_lays_1 (fun h1 => ?_) (fun h1 => ?_) (fun h1 => ?_) (fun h1 => ?_) (fun h1 => ?_) (fun h1 => ?_) (fun h1_0 h1_1 h1_2 h1_3 h1_4 h1_5 => ?_))
  · refine iX12_lays_40 (iX12_lays_41 (iX12_lays_44 (iX12_lays_45 (iX12_lays_46 (vin 10 (by decide) (by grind) (by grind)) (iX12_lays_47 (iX12_lays_110 ?_))))))
    first | (subst h1; exact ⟨rfl, rfl, rfl, rfl⟩) | (rw [e1, e2]; exact ⟨rfl, rfl, rfl, rfl⟩)
  · refine iX12_lays_50 (iX12_lays_51 (iX12_lays_54 (iX12_lays_55 (iX12_lays_56 (vin 10 (by decide) (by grind) (by grind)) (iX12_lays_57 (iX12_lays_110 ?_))))))
    first | (subst h1; exact ⟨rfl, rfl, rfl, rfl⟩) | (rw [e1, e2]; exact ⟨rfl, rfl, rfl, rfl⟩)
  · refine iX12_lays_60 (iX12_lays_61 (iX12_lays_64 (iX12_lays_65 (iX12_lays_66 (vin 10 (by decide) (by grind) (by grind)) (iX12_lays_67 (iX12_lays_110 ?_))))))
    first | (subst h1; exact ⟨rfl, rfl, rfl, rfl⟩) | (rw [e1, e2]; exact ⟨rfl, rfl, rfl, rfl⟩)
  · refine iX12_lays_70 (iX12_lays_71 (iX12_lays_74 (iX12_lays_75 (iX12_lays_76 (vin 10 (by decide) (by grind) (by grind)) (iX12_lays_77 (iX12_lays_110 ?_))))))
    first | (subst h1; exact ⟨rfl, rfl, rfl, rfl⟩) | (rw [e1, e2]; exact ⟨rfl, rfl, rfl, rfl⟩)
  · refine iX12_lays_80 (iX12_lays_81 (iX12_lays_84 (iX12_lays_85 (iX12_lays_86 (vin 6 (by decide) (by grind) (by grind)) (iX12_lays_87 (iX12_lays_110 ?_))))))
    first | (subst h1; exact ⟨rfl, rfl, rfl, rfl⟩) | (rw [e1, e2]; exact ⟨rfl, rfl, rfl, rfl⟩)
  · refine iX12_lays_90 (iX12_lays_91 (iX12_lays_94 (iX12_lays_95 (iX12_lays_96 (vin 6 (by decide) (by grind) (by grind)) (iX12_lays_97 (iX12_lays_110 ?_))))))
    first | (subst h1; exact ⟨rfl, rfl, rfl, rfl⟩) | (rw [e1, e2]; exact ⟨rfl, rfl, rfl, rfl⟩)
  · have hw : w = 6 ∨ w = 7 ∨ w = 8 ∨ w = 9 := by grind
    have e1 : mrow w = 64 := by rcases hw with rfl | rfl | rfl | rfl <;> rfl
    have e2 : mcol w n = (w - 6).toNatClampNeg := by rcases hw with rfl | rfl | rfl | rfl <;> rfl
    have e3 : vp_in (w - 6) 4 := by rcases hw with rfl | rfl | rfl | rfl <;> exact vin 4 (by decide) (by decide) (by decide)
    refine iX12_lays_100 (iX12_lays_101 (iX12_lays_104 (iX12_lays_105 (iX12_lays_107 (iX12_lays_108 (iX12_lays_109 e3 (iX12_lays_110 ?_)))))))
    first | (subst h1; exact ⟨rfl, rfl, rfl, rfl⟩) | (rw [e1, e2]; exact ⟨rfl, rfl, rfl, rfl⟩)
def f_mayM (w v : Int32) : Int32 := if w = 0 then f_in v 1 9 else if w = 2 then f_in v 0 3 else if w = 3 then f_in v 0 99 else if w = 5 then f_in v 0 2 else if w = 8 then f_in v 0 95 else if w = 9 then 1 else f_in v 0 9
theorem s_X12_mayHave (w v : Int32) : SpecF 1 M_X12_mayHave [.int w, .int v] xG1 I J (some (.int (f_mayM w v))) I J := by
  refine specF_of (L := [some (.int w), some (.int v)]) (by decide) (Nat.le_of_ble_eq_true rfl) rfl ?_
  refine iX12_mayHave_0 (iX12_mayHave_1 (fun h1 => ?_) (fun h1 => ?_) (fun h1 => ?_) (fun h1 => ?_) (fun h1 => ?_) (fun h1 => ?_) (fun h1_0 h1_1 h1_2 h1_3 h1_4 h1_5 => ?_))
  · refine iX12_mayHave_56 (iX12_mayHave_57 (iX12_mayHave_58 (iX12_mayHave_60 (s_X12_in _ _ _) (iX12_mayHave_63 ?_ (nz01 f_in_01)))))
    refine ⟨congrArg (fun z => some (Value.int z)) ?_, rfl, rfl, rfl⟩
    unfold f_mayM
    grind
  · refine iX12_mayHave_64 (iX12_mayHave_65 (iX12_mayHave_66 (iX12_mayHave_67 (s_X12_in _ _ _) (iX12_mayHave_70 ?_ (nz01 f_in_01)))))
    refine ⟨congrArg (fun z => some (Value.int z)) ?_, rfl, rfl, rfl⟩
    unfold f_mayM
    grind
  · refine iX12_mayHave_71 (iX12_mayHave_72 (iX12_mayHave_73 (iX12_mayHave_75 (s_X12_in _ _ _) (iX12_mayHave_78 ?_ (nz01 f_in_01)))))
    refine ⟨congrArg (fun z => some (Value.int z)) ?_, rfl, rfl, rfl⟩
    unfold f_mayM
    grind
  · refine iX12_mayHave_79 (iX12_mayHave_80 (iX12_mayHave_81 (iX12_mayHave_82 (s_X12_in _ _ _) (iX12_mayHave_85 ?_ (nz01 f_in_01)))))
    refine ⟨congrArg (fun z => some (Value.int z)) ?_, rfl, rfl, rfl⟩
    unfold f_mayM
    grind
  · refine iX12_mayHave_86 (iX12_mayHave_87 (iX12_mayHave_88 (iX12_mayHave_90 (s_X12_in _ _ _) (iX12_mayHave_93 ?_ (nz01 f_in_01)))))
    refine ⟨congrArg (fun z => some (Value.int z)) ?_, rfl, rfl, rfl⟩
    unfold f_mayM
    grind
  · refine iX12_mayHave_94 (iX12_mayHave_95 ?_)
    refine ⟨congrArg (fun z => some (Value.int z)) ?_, rfl, rfl, rfl⟩
    unfold f_mayM
    grind
  · refine iX12_mayHave_96 (iX12_mayHave_97 (iX12_mayHave_98 (iX12_mayHave_100 (s_X12_in _ _ _) (iX12_mayHave_103 ?_ (nz01 f_in_01)))))
    refine ⟨congrArg (fun z => some (Value.int z)) ?_, rfl, rfl, rfl⟩
    unfold f_mayM
    grind
theorem may_eq {I : xI} {n w v : Int32} (h : f_has I n w = 1) (hB : I 1 2 ≤ 10) (hS : I 1 3 ≤ 6) : f_mayM w v = f_may w v := by
  have hc := (has_cases h hB hS).2
  have : w = 0 ∨ w = 1 ∨ w = 2 ∨ w = 3 ∨ w = 4 ∨ w = 5 ∨ w = 6 ∨ w = 7 ∨ w = 8 ∨ w = 9 := by grind
  rcases this with rfl | rfl | rfl | rfl | rfl | rfl | rfl | rfl | rfl | rfl
  · exact (may_0 v).symm
  · exact (may_1 v).symm
  · exact (may_2 v).symm
  · exact (may_3 v).symm
  · exact (may_4 v).symm
  · exact (may_5 v).symm
  · exact (may_6 v).symm
  · exact (may_7 v).symm
  · exact (may_8 v).symm
  · rw [may_9]
    unfold f_mayM f_in
    rw [if_neg (by decide), if_neg (by decide), if_neg (by decide), if_neg (by decide), if_neg (by decide), if_pos rfl, if_neg (by grind)]
/-- a number becomes another in both -/
theorem inv_lay {n w v : Int32} (h : Inv I J) (hhas : f_has I n w = 1) (hmay : mayV w v) : Inv (xu (xu I (7 + w.toNatClampNeg) n.toNatClampNeg v) (mrow w) (mcol w n) v) J := by
  obtain ⟨hh, hb, hse, hin, hch, hta, hle, him, hcl, hsh, hlw⟩ := h
  unfold mayV at hmay
  obtain ⟨hn, hc⟩ := has_cases hhas hh.2.2.2.1 hh.2.2.2.2.2
  rcases hc with ⟨hw, h1, h2⟩ | ⟨hw, h1, h2⟩ | ⟨hw, rfl⟩
  · have hnk : n.toNatClampNeg < 10 := clamp_lt' (N := 10) (by decide) hn h1
    have q0 := may_0 v
    have q1 := may_1 v
    have q2 := may_2 v
    have q3 := may_3 v
    have e : mcol w n = n.toNatClampNeg := by unfold mcol; rw [if_pos (by grind)]
    rw [e]
    generalize n.toNatClampNeg = k at *
    unfold f_in at q0 q1 q2 q3
    rcases hw with rfl | rfl | rfl | rfl
    · show Inv (xu (xu I 7 k v) 58 k v) J
      refine ⟨?_, ?_, ?_, ?_, ?_, ?_, ?_, ?_, ?_, ?_, ?_⟩
      · simp only [ivHouse, xu] at hh ⊢
        grind
      · intro b hb'
        have := hb b hb'
        simp only [xu]
        grind
      · intro b hb'
        have := hse b hb'
        simp only [xu]
        grind
      · simp only [ivInf, xu] at hin ⊢
        grind
      · exact ivChg_frame hch (by simp [xu_rowf]) (by simp [xu]) (by simp [xu]) (by simp [xu]) (by simp [xu])
      · simp only [ivTape, xu] at hta ⊢
        grind
      · intro b hb'
        have := hle b hb'
        simp only [xu]
        grind
      · simp only [ivImg, xu] at him ⊢
        grind
      · simp only [ivCl, xu] at hcl ⊢
        grind
      · exact ivSh_frame hsh (fun s hs => by simp (disch := omega) only [xu_rowf]) (by simp [xu_rowf]) (by simp [xu_rowf]) (by simp [xu]) (fun _ _ => rfl) rfl
      · exact ivLaw_frame hlw (by simp [lawRows, xu, xu_rowf])
    · show Inv (xu (xu I 8 k v) 59 k v) J
      refine ⟨?_, ?_, ?_, ?_, ?_, ?_, ?_, ?_, ?_, ?_, ?_⟩
      · simp only [ivHouse, xu] at hh ⊢
        grind
      · intro b hb'
        have := hb b hb'
        simp only [xu]
        grind
      · intro b hb'
        have := hse b hb'
        simp only [xu]
        grind
      · simp only [ivInf, xu] at hin ⊢
        grind
      · exact ivChg_frame hch (by simp [xu_rowf]) (by simp [xu]) (by simp [xu]) (by simp [xu]) (by simp [xu])
      · simp only [ivTape, xu] at hta ⊢
        grind
      · intro b hb'
        have := hle b hb'
        simp only [xu]
        grind
      · simp only [ivImg, xu] at him ⊢
        grind
      · simp only [ivCl, xu] at hcl ⊢
        grind
      · exact ivSh_frame hsh (fun s hs => by simp (disch := omega) only [xu_rowf]) (by simp [xu_rowf]) (by simp [xu_rowf]) (by simp [xu]) (fun _ _ => rfl) rfl
      · exact ivLaw_frame hlw (by simp [lawRows, xu, xu_rowf])
    · show Inv (xu (xu I 9 k v) 60 k v) J
      refine ⟨?_, ?_, ?_, ?_, ?_, ?_, ?_, ?_, ?_, ?_, ?_⟩
      · simp only [ivHouse, xu] at hh ⊢
        grind
      · intro b hb'
        have := hb b hb'
        simp only [xu]
        grind
      · intro b hb'
        have := hse b hb'
        simp only [xu]
        grind
      · simp only [ivInf, xu] at hin ⊢
        grind
      · exact ivChg_frame hch (by simp [xu_rowf]) (by simp [xu]) (by simp [xu]) (by simp [xu]) (by simp [xu])
      · simp only [ivTape, xu] at hta ⊢
        grind
      · intro b hb'
        have := hle b hb'
        simp only [xu]
        grind
      · simp only [ivImg, xu] at him ⊢
        grind
      · simp only [ivCl, xu] at hcl ⊢
        grind
      · exact ivSh_frame hsh (fun s hs => by simp (disch := omega) only [xu_rowf]) (by simp [xu_rowf]) (by simp [xu_rowf]) (by simp [xu]) (fun _ _ => rfl) rfl
      · exact ivLaw_frame hlw (by simp [lawRows, xu, xu_rowf])
    · show Inv (xu (xu I 10 k v) 61 k v) J
      refine ⟨?_, ?_, ?_, ?_, ?_, ?_, ?_, ?_, ?_, ?_, ?_⟩
      · simp only [ivHouse, xu] at hh ⊢
        grind
      · intro b hb'
        have := hb b hb'
        simp only [xu]
        grind
      · intro b hb'
        have := hse b hb'
        simp only [xu]
        grind
      · simp only [ivInf, xu] at hin ⊢
        grind
      · exact ivChg_frame hch (by simp [xu_rowf]) (by simp [xu]) (by simp [xu]) (by simp [xu]) (by simp [xu])
      · simp only [ivTape, xu] at hta ⊢
        grind
      · intro b hb'
        have := hle b hb'
        simp only [xu]
        grind
      · simp only [ivImg, xu] at him ⊢
        grind
      · simp only [ivCl, xu] at hcl ⊢
        grind
      · exact ivSh_frame hsh (fun s hs => by simp (disch := omega) only [xu_rowf]) (by simp [xu_rowf]) (by simp [xu_rowf]) (by simp [xu]) (fun _ _ => rfl) rfl
      · exact ivLaw_frame hlw (by simp [lawRows, xu, xu_rowf])
  · have hnk : n.toNatClampNeg < 6 := clamp_lt' (N := 6) (by decide) hn h1
    have q4 := may_4 v
    have q5 := may_5 v
    have e : mcol w n = n.toNatClampNeg := by unfold mcol; rw [if_pos (by grind)]
    rw [e]
    generalize n.toNatClampNeg = k at *
    unfold f_in at q4 q5
    rcases hw with rfl | rfl
    · show Inv (xu (xu I 11 k v) 62 k v) J
      refine ⟨?_, ?_, ?_, ?_, ?_, ?_, ?_, ?_, ?_, ?_, ?_⟩
      · simp only [ivHouse, xu] at hh ⊢
        grind
      · intro b hb'
        have := hb b hb'
        simp only [xu]
        grind
      · intro b hb'
        have := hse b hb'
        simp only [xu]
        grind
      · simp only [ivInf, xu] at hin ⊢
        grind
      · exact ivChg_frame hch (by simp [xu_rowf]) (by simp [xu]) (by simp [xu]) (by simp [xu]) (by simp [xu])
      · simp only [ivTape, xu] at hta ⊢
        grind
      · intro b hb'
        have := hle b hb'
        simp only [xu]
        grind
      · simp only [ivImg, xu] at him ⊢
        grind
      · simp only [ivCl, xu] at hcl ⊢
        grind
      · exact ivSh_frame hsh (fun s hs => by simp (disch := omega) only [xu_rowf]) (by simp [xu_rowf]) (by simp [xu_rowf]) (by simp [xu]) (fun _ _ => rfl) rfl
      · exact ivLaw_frame hlw (by simp [lawRows, xu, xu_rowf])
    · show Inv (xu (xu I 12 k v) 63 k v) J
      refine ⟨?_, ?_, ?_, ?_, ?_, ?_, ?_, ?_, ?_, ?_, ?_⟩
      · simp only [ivHouse, xu] at hh ⊢
        grind
      · intro b hb'
        have := hb b hb'
        simp only [xu]
        grind
      · intro b hb'
        have := hse b hb'
        simp only [xu]
        grind
      · simp only [ivInf, xu] at hin ⊢
        grind
      · exact ivChg_frame hch (by simp [xu_rowf]) (by simp [xu]) (by simp [xu]) (by simp [xu]) (by simp [xu])
      · simp only [ivTape, xu] at hta ⊢
        grind
      · intro b hb'
        have := hle b hb'
        simp only [xu]
        grind
      · simp only [ivImg, xu] at him ⊢
        grind
      · simp only [ivCl, xu] at hcl ⊢
        grind
      · exact ivSh_frame hsh (fun s hs => by simp (disch := omega) only [xu_rowf]) (by simp [xu_rowf]) (by simp [xu_rowf]) (by simp [xu]) (fun _ _ => rfl) rfl
      · exact ivLaw_frame hlw (by simp [lawRows, xu, xu_rowf])
  · have q6 := may_6 v
    have q7 := may_7 v
    have q8 := may_8 v
    unfold f_in at q6 q7 q8
    rcases hw with rfl | rfl | rfl | rfl
    · show Inv (xu (xu I 13 0 v) 64 0 v) J
      refine ⟨?_, ?_, ?_, ?_, ?_, ?_, ?_, ?_, ?_, ?_, ?_⟩
      · simp only [ivHouse, xu] at hh ⊢
        grind
      · intro b hb'
        have := hb b hb'
        simp only [xu]
        grind
      · intro b hb'
        have := hse b hb'
        simp only [xu]
        grind
      · simp only [ivInf, xu] at hin ⊢
        grind
      · exact ivChg_frame hch (by simp [xu_rowf]) (by simp [xu]) (by simp [xu]) (by simp [xu]) (by simp [xu])
      · simp only [ivTape, xu] at hta ⊢
        grind
      · intro b hb'
        have := hle b hb'
        simp only [xu]
        grind
      · simp only [ivImg, xu] at him ⊢
        grind
      · simp only [ivCl, xu] at hcl ⊢
        grind
      · exact ivSh_frame hsh (fun s hs => by simp (disch := omega) only [xu_rowf]) (by simp [xu_rowf]) (by simp [xu_rowf]) (by simp [xu]) (fun _ _ => rfl) rfl
      · exact ivLaw_frame hlw (by simp [lawRows, xu, xu_rowf])
    · show Inv (xu (xu I 14 0 v) 64 1 v) J
      refine ⟨?_, ?_, ?_, ?_, ?_, ?_, ?_, ?_, ?_, ?_, ?_⟩
      · simp only [ivHouse, xu] at hh ⊢
        grind
      · intro b hb'
        have := hb b hb'
        simp only [xu]
        grind
      · intro b hb'
        have := hse b hb'
        simp only [xu]
        grind
      · simp only [ivInf, xu] at hin ⊢
        grind
      · exact ivChg_frame hch (by simp [xu_rowf]) (by simp [xu]) (by simp [xu]) (by simp [xu]) (by simp [xu])
      · simp only [ivTape, xu] at hta ⊢
        grind
      · intro b hb'
        have := hle b hb'
        simp only [xu]
        grind
      · simp only [ivImg, xu] at him ⊢
        grind
      · simp only [ivCl, xu] at hcl ⊢
        grind
      · exact ivSh_frame hsh (fun s hs => by simp (disch := omega) only [xu_rowf]) (by simp [xu_rowf]) (by simp [xu_rowf]) (by simp [xu]) (fun _ _ => rfl) rfl
      · exact ivLaw_frame hlw (by simp [lawRows, xu, xu_rowf])
    · show Inv (xu (xu I 15 0 v) 64 2 v) J
      refine ⟨?_, ?_, ?_, ?_, ?_, ?_, ?_, ?_, ?_, ?_, ?_⟩
      · simp only [ivHouse, xu] at hh ⊢
        grind
      · intro b hb'
        have := hb b hb'
        simp only [xu]
        grind
      · intro b hb'
        have := hse b hb'
        simp only [xu]
        grind
      · simp only [ivInf, xu] at hin ⊢
        grind
      · exact ivChg_frame hch (by simp [xu_rowf]) (by simp [xu]) (by simp [xu]) (by simp [xu]) (by simp [xu])
      · simp only [ivTape, xu] at hta ⊢
        grind
      · intro b hb'
        have := hle b hb'
        simp only [xu]
        grind
      · simp only [ivImg, xu] at him ⊢
        grind
      · simp only [ivCl, xu] at hcl ⊢
        grind
      · exact ivSh_frame hsh (fun s hs => by simp (disch := omega) only [xu_rowf]) (by simp [xu_rowf]) (by simp [xu_rowf]) (by simp [xu]) (fun _ _ => rfl) rfl
      · exact ivLaw_frame hlw (by simp [lawRows, xu, xu_rowf])
    · show Inv (xu (xu I 16 0 v) 64 3 v) J
      refine ⟨?_, ?_, ?_, ?_, ?_, ?_, ?_, ?_, ?_, ?_, ?_⟩
      · simp only [ivHouse, xu] at hh ⊢
        grind
      · intro b hb'
        have := hb b hb'
        simp only [xu]
        grind
      · intro b hb'
        have := hse b hb'
        simp only [xu]
        grind
      · simp only [ivInf, xu] at hin ⊢
        grind
      · exact ivChg_frame hch (by simp [xu_rowf]) (by simp [xu]) (by simp [xu]) (by simp [xu]) (by simp [xu])
      · simp only [ivTape, xu] at hta ⊢
        grind
      · intro b hb'
        have := hle b hb'
        simp only [xu]
        grind
      · simp only [ivImg, xu] at him ⊢
        grind
      · simp only [ivCl, xu] at hcl ⊢
        grind
      · exact ivSh_frame hsh (fun s hs => by simp (disch := omega) only [xu_rowf]) (by simp [xu_rowf]) (by simp [xu_rowf]) (by simp [xu]) (fun _ _ => rfl) rfl
      · exact ivLaw_frame hlw (by simp [lawRows, xu, xu_rowf])
end
