/-! ===== what a reading stands on without the infant; pairs read, apart ===== -/
def Wb (I : xI) (nB nS : Nat) (ls : lwT) : Prop := I 1 2 = nI nB ∧ nB ≤ 10 ∧ I 1 3 = nI nS ∧ nS ≤ 6 ∧ I 57 1 = nI nB ∧ I 57 6 = nI nS ∧ ivBills I ∧ ivSens I ∧ (ls = [] ∧ I 2 3 = 0 ∧ I 57 29 = 0 ∨ lwIs I ls)
theorem Wd.b {I : xI} {nB nS : Nat} {ls : lwT} (h : Wd I nB nS ls) : Wb I nB nS ls := ⟨h.1, h.2.1, h.2.2.1, h.2.2.2.1, h.2.2.2.2.1, h.2.2.2.2.2.1, h.2.2.2.2.2.2.1, h.2.2.2.2.2.2.2.1, h.2.2.2.2.2.2.2.2.2⟩
theorem Wb.le {I : xI} {nB nS : Nat} {ls : lwT} (h : Wb I nB nS ls) : I 1 2 ≤ 10 ∧ I 1 3 ≤ 6 := ⟨by rw [h.1]; exact nI_le (b := 10) h.2.1 (by omega), by rw [h.2.2.1]; exact nI_le (b := 6) h.2.2.2.1 (by omega)⟩
/-- frames that leave what a reading stands on -/
def Fb (I I' : xI) : Prop := ∀ a : Nat, a ∉ [4, 5, 15, 16, 38, 64, 75, 76, 82] → I' a = I a
theorem Wb.fr {I I' : xI} {nB nS : Nat} {ls : lwT} (h : Wb I nB nS ls) (f : Fb I I') : Wb I' nB nS ls := by
  obtain ⟨a1, a2, a3, a4, a5, a6, hb, hse, hl⟩ := h
  refine ⟨by rw [f 1 (by decide)]; exact a1, a2, by rw [f 1 (by decide)]; exact a3, a4, by rw [f 57 (by decide)]; exact a5, by rw [f 57 (by decide)]; exact a6, ?_, ?_, ?_⟩
  · unfold ivBills at hb ⊢
    rw [f 58 (by decide), f 59 (by decide), f 60 (by decide), f 61 (by decide), f 7 (by decide), f 8 (by decide), f 9 (by decide), f 10 (by decide)]
    exact hb
  · unfold ivSens at hse ⊢
    rw [f 62 (by decide), f 63 (by decide), f 11 (by decide), f 12 (by decide)]
    exact hse
  · rcases hl with ⟨l1, l2, l3⟩ | l
    · exact Or.inl ⟨l1, by rw [f 2 (by decide)]; exact l2, by rw [f 57 (by decide)]; exact l3⟩
    · refine Or.inr ?_
      unfold lwIs at l ⊢
      rw [f 2 (by decide), f 3 (by decide), f 57 (by decide), f 70 (by decide), f 71 (by decide), f 72 (by decide), f 73 (by decide), f 74 (by decide)]
      exact l
theorem cyN_fb {I I' : xI} (h : Fb I I') {ls : lwT} {f t w : Int32} {b s : Nat} : cyN I' ls f t w b s = cyN I ls f t w b s := by
  unfold cyN cyV
  rw [show facts I' f t w b s = facts I f t w b s from funext fun j => by unfold facts; rw [h 11 (by decide), h 8 (by decide), h 9 (by decide)], h 11 (by decide), h 8 (by decide)]
section
variable {I : xI} {J : xJ} {nB nS : Nat} {ls : lwT}
theorem s_X12_sinceWithB (h : Wb I nB nS ls) {b : Nat} (hb : b < nB) (f : Int32) : SpecF 1 M_X12_sinceWith [.ref 57, .int f, .int (nI b)] xG1 I J (some (.int (f_min 95 (f + I 7 b)))) I J := by
  have hb10 : b < 10 := by have := h.2.1; omega
  have e58 : I 58 b = I 7 b := (h.2.2.2.2.2.2.1 b hb10).1
  refine specF_of (L := [some (.ref 57), some (.int f), some (.int (nI b))]) (by decide) (Nat.le_of_ble_eq_true rfl) rfl ?_
  refine iX12_sinceWith_0 (iX12_sinceWith_1 (iX12_sinceWith_2 (iX12_sinceWith_5 (iX12_sinceWith_6 (vp_in_nI (by omega) (by omega)) (iX12_sinceWith_7 ?_)))))
  rw [nI_clamp (by omega), e58]
  refine iX12_sinceWith_8 (iX12_sinceWith_10 (fun h10 => ?_) (fun h10 => ?_))
  · refine iX12_sinceWith_18 (iX12_sinceWith_19 (iX12_sinceWith_20 (iX12_sinceWith_23 (iX12_sinceWith_24 (vp_in_nI (by omega) (by omega)) (iX12_sinceWith_25 (iX12_sinceWith_26 ?_))))))
    refine ⟨congrArg (fun z => some (Value.int z)) ?_, rfl, rfl, rfl⟩
    try rw [nI_clamp (by omega), e58]
    unfold f_min
    grind
  · refine iX12_sinceWith_13 (iX12_sinceWith_15 (iX12_sinceWith_26 ?_))
    refine ⟨congrArg (fun z => some (Value.int z)) ?_, rfl, rfl, rfl⟩
    try rw [nI_clamp (by omega), e58]
    unfold f_min
    grind
theorem s_X12_criesByB (h : Wb I nB nS ls) {b s : Nat} (hb : b < nB) (hs : s < nS) (f t w : Int32) : Spec 10 (1000000, 0, 0) M_X12_criesBy [.ref 57, .int f, .int t, .int w, .int (nI b), .int (nI s)] xG1 I J (fun r g I2 J2 => r = some (.int (nI (cyN I ls f t w b s))) ∧ g = xG1 ∧ xFr [75, 76] I I2 ∧ J2 = J) := by
  have hb10 : b < 10 := by have := h.2.1; omega
  have hs6 : s < 6 := by have := h.2.2.2.1; omega
  obtain ⟨e58, e59, e60, -⟩ := h.2.2.2.2.2.2.1 b hb10
  obtain ⟨e62, -⟩ := h.2.2.2.2.2.2.2.1 s hs6
  refine spec_of (L := [some (.ref 57), some (.int f), some (.int t), some (.int w), some (.int (nI b)), some (.int (nI s)), none]) (by decide) (Nat.le_of_ble_eq_true rfl) rfl ?_
  have tail : ∀ x : Int32, clN x = cyN I ls f t w b s → ∀ I2, xFr [75, 76] I I2 → WP 10 (1000000, 0, 0) none M_X12_criesBy (fun r g I2 J2 => r = some (.int (nI (cyN I ls f t w b s))) ∧ g = xG1 ∧ xFr [75, 76] I I2 ∧ J2 = J) 109 [some (.ref 57), some (.int f), some (.int t), some (.int w), some (.int (nI b)), some (.int (nI s)), some (.int x)] [] xG1 I2 J := by
    intro x hx I2 hI2
    refine iX12_criesBy_109 (iX12_criesBy_111 (fun h111 => ?_) (fun h111 => ?_))
    · refine iX12_criesBy_118 (iX12_criesBy_120 (iX12_criesBy_122 (fun h122 => ?_) (fun h122 => ?_)))
      · refine iX12_criesBy_130 (iX12_criesBy_132 ?_)
        refine ⟨?_, rfl, hI2, rfl⟩
        rw [← hx]
        first | rw [clN_m1 (by grind)] | rw [clN_m2 (by grind) (by grind)] | rw [clN_m3 (by grind) (by grind)]
      · refine iX12_criesBy_125 (iX12_criesBy_127 (iX12_criesBy_132 ?_))
        refine ⟨?_, rfl, hI2, rfl⟩
        rw [← hx]
        first | rw [clN_m1 (by grind)] | rw [clN_m2 (by grind) (by grind)] | rw [clN_m3 (by grind) (by grind)]
    · refine iX12_criesBy_114 (iX12_criesBy_115 (iX12_criesBy_132 ?_))
      refine ⟨?_, rfl, hI2, rfl⟩
      rw [← hx]
      first | rw [clN_m1 (by grind)] | rw [clN_m2 (by grind) (by grind)] | rw [clN_m3 (by grind) (by grind)]
  by_cases hl : ls = []
  · have h29 : I 57 29 = 0 := by
      rcases h.2.2.2.2.2.2.2.2 with q | q
      · exact q.2.2
      · exact absurd hl q.1
    refine iX12_criesBy_0 (iX12_criesBy_1 (iX12_criesBy_2 (by decide) (iX12_criesBy_3 (iX12_criesBy_4 (iX12_criesBy_5 (by decide) (iX12_criesBy_6 (iX12_criesBy_7 (iX12_criesBy_8 (iX12_criesBy_9 (by decide) (iX12_criesBy_10 (iX12_criesBy_11 (iX12_criesBy_12 (iX12_criesBy_15 (iX12_criesBy_17 (vp_in_nI (by omega) (by omega)) (iX12_criesBy_18 (iX12_criesBy_19 (by decide) (iX12_criesBy_20 (iX12_criesBy_21 (iX12_criesBy_22 (iX12_criesBy_25 (iX12_criesBy_27 (vp_in_nI (by omega) (by omega)) (iX12_criesBy_28 (iX12_criesBy_29 (by decide) (iX12_criesBy_30 (iX12_criesBy_31 (iX12_criesBy_32 ?_))))))))))))))))))))))))))
    rw [nI_clamp (by omega), nI_clamp (by omega), e62, e59]
    refine iX12_criesBy_33 (iX12_criesBy_35 (iX12_criesBy_36 (iX12_criesBy_39 (fun h39 => ?_) (fun h39 => by first | exact absurd (h29) h39 | exact absurd h39 (h29)))))
    exact tail _ (by unfold cyN cyV; rw [if_pos hl]) I xFr.rf
  · have hlw : lwIs I ls := by
      rcases h.2.2.2.2.2.2.2.2 with q | q
      · exact absurd q.1 hl
      · exact q
    have h29 : ¬ I 57 29 = 0 := by
      rw [hlw.2.2.2.2.2.1]; decide
    have hT := facts_fr (I := I) (f := f) (t := t) (w := w) (r := I 11 s) (s := I 8 b) (m := I 9 b)
    have hw := lwIs_fr (Fq.of hT (by decide)) hlw
    generalize hg : g_facts I f t w (I 11 s) (I 8 b) (I 9 b) = IT at hT hw
    have e20 : IT 75 0 = f := by rw [← hg]; simp [g_facts, xu]
    have e21 : IT 75 1 = t := by rw [← hg]; simp [g_facts, xu]
    have e22 : IT 75 2 = w := by rw [← hg]; simp [g_facts, xu]
    have e23 : IT 75 3 = I 11 s := by rw [← hg]; simp [g_facts, xu]
    have e24 : IT 75 4 = I 8 b := by rw [← hg]; simp [g_facts, xu]
    have e25 : IT 75 5 = I 9 b := by rw [← hg]; simp [g_facts, xu]
    have sp := s_X12_gives (J := J) hw (F := facts I f t w b s) (fun j hj => by
      match j, hj with
      | 0, _ => exact e20
      | 1, _ => exact e21
      | 2, _ => exact e22
      | 3, _ => exact e23
      | 4, _ => exact e24
      | 5, _ => exact e25
      | j + 6, hj => omega)
    refine iX12_criesBy_0 (iX12_criesBy_1 (iX12_criesBy_2 (by decide) (iX12_criesBy_3 (iX12_criesBy_4 (iX12_criesBy_5 (by decide) (iX12_criesBy_6 (iX12_criesBy_7 (iX12_criesBy_8 (iX12_criesBy_9 (by decide) (iX12_criesBy_10 (iX12_criesBy_11 (iX12_criesBy_12 (iX12_criesBy_15 (iX12_criesBy_17 (vp_in_nI (by omega) (by omega)) (iX12_criesBy_18 (iX12_criesBy_19 (by decide) (iX12_criesBy_20 (iX12_criesBy_21 (iX12_criesBy_22 (iX12_criesBy_25 (iX12_criesBy_27 (vp_in_nI (by omega) (by omega)) (iX12_criesBy_28 (iX12_criesBy_29 (by decide) (iX12_criesBy_30 (iX12_criesBy_31 (iX12_criesBy_32 ?_))))))))))))))))))))))))))
    rw [nI_clamp (by omega), nI_clamp (by omega), e62, e59]
    refine iX12_criesBy_33 (iX12_criesBy_35 (iX12_criesBy_36 (iX12_criesBy_39 (fun h39 => absurd h39 (h29)) (fun h39 => ?_))))
    refine iX12_criesBy_42 (iX12_criesBy_43 (iX12_criesBy_46 (iX12_criesBy_47 (iX12_criesBy_48 (vin 6 (by decide) (by decide) (by decide)) (iX12_criesBy_49 (iX12_criesBy_50 (iX12_criesBy_53 (iX12_criesBy_54 (iX12_criesBy_55 (vin 6 (by decide) (by decide) (by decide)) (iX12_criesBy_56 (iX12_criesBy_57 (iX12_criesBy_60 (iX12_criesBy_61 (iX12_criesBy_62 (vin 6 (by decide) (by decide) (by decide)) (iX12_criesBy_63 (iX12_criesBy_64 (iX12_criesBy_67 (iX12_criesBy_68 (iX12_criesBy_69 (iX12_criesBy_72 (iX12_criesBy_74 (vp_in_nI (by omega) (by omega)) (iX12_criesBy_75 (vin 6 (by decide) (by decide) (by decide)) (iX12_criesBy_76 (iX12_criesBy_77 (iX12_criesBy_80 (iX12_criesBy_81 (iX12_criesBy_82 (iX12_criesBy_85 (iX12_criesBy_87 (vp_in_nI (by omega) (by omega)) (iX12_criesBy_88 (vin 6 (by decide) (by decide) (by decide)) (iX12_criesBy_89 (iX12_criesBy_90 (iX12_criesBy_93 (iX12_criesBy_94 (iX12_criesBy_95 (iX12_criesBy_98 (iX12_criesBy_100 (vp_in_nI (by omega) (by omega)) (iX12_criesBy_101 (vin 6 (by decide) (by decide) (by decide)) ?_))))))))))))))))))))))))))))))))))))))
    have eIT : xu (xu (xu (xu (xu (xu I 75 (0 : Int32).toNatClampNeg f) 75 (1 : Int32).toNatClampNeg t) 75 (2 : Int32).toNatClampNeg w) 75 (3 : Int32).toNatClampNeg (I 62 (nI s).toNatClampNeg)) 75 (4 : Int32).toNatClampNeg (I 59 (nI b).toNatClampNeg)) 75 (5 : Int32).toNatClampNeg (I 60 (nI b).toNatClampNeg) = IT := by rw [← hg, nI_clamp (by omega), nI_clamp (by omega), e62, e59, e60]; rfl
    refine WP_I eIT ?_
    refine iX12_criesBy_102 (iX12_criesBy_103 (jX12_criesBy_104 sp (fun r104 g104 I104 J104 hq => ?_)))
    obtain ⟨rfl, rfl, hq3, rfl⟩ := hq
    refine iX12_criesBy_107 ?_
    exact tail _ (by unfold cyN cyV; rw [if_neg hl]) _ ((hT.mono (by decide)).tr (hq3.mono (by decide)))
theorem hb_inB (h : Wb I nB nS ls) (x : Int32) : f_in x 0 (I 57 1 - 1) = f_has I x 0 := by
  have e3 : I 57 1 = I 1 2 := h.2.2.2.2.1.trans h.1.symm
  have l0 : 0 ≤ I 1 2 := by rw [h.1]; exact nI_pos' (by have := h.2.1; omega)
  have l1 := h.le.1
  unfold f_in f_has
  rw [e3, if_pos (show (0 : Int32) ≤ 3 by decide)]
  by_cases q : x < 0
  · rw [if_pos (Or.inl q), if_pos (Or.inr (Or.inr q))]
  · rw [if_neg (show ¬ ((0 : Int32) < 0 ∨ (9 : Int32) < 0 ∨ x < 0) by rintro (w | w | w); exact absurd w (by decide); exact absurd w (by decide); exact q w)]
    have := in_lt l0 l1 q
    by_cases q2 : x < I 1 2
    · rw [if_pos q2, if_neg (by rintro (w | w); exact q w; exact this.mp w q2)]
    · rw [if_neg q2, if_pos (Or.inr (this.mpr q2))]
theorem hs_inB (h : Wb I nB nS ls) (x : Int32) : f_in x 0 (I 57 6 - 1) = f_has I x 4 := by
  have e3 : I 57 6 = I 1 3 := h.2.2.2.2.2.1.trans h.2.2.1.symm
  have l0 : 0 ≤ I 1 3 := by rw [h.2.2.1]; exact nI_pos' (by have := h.2.2.2.1; omega)
  have l1 : I 1 3 ≤ 10 := Int32.le_trans h.le.2 (by decide)
  unfold f_in f_has
  rw [e3, if_neg (show ¬ (4 : Int32) ≤ 3 by decide), if_pos (show (4 : Int32) ≤ 5 by decide)]
  by_cases q : x < 0
  · rw [if_pos (Or.inl q), if_pos (Or.inr (Or.inr q))]
  · rw [if_neg (show ¬ ((4 : Int32) < 0 ∨ (9 : Int32) < 4 ∨ x < 0) by rintro (w | w | w); exact absurd w (by decide); exact absurd w (by decide); exact q w)]
    have := in_lt l0 l1 q
    by_cases q2 : x < I 1 3
    · rw [if_pos q2, if_neg (by rintro (w | w); exact q w; exact this.mp w q2)]
    · rw [if_neg q2, if_pos (Or.inr (this.mpr q2))]
theorem s_X12_areTwoB (h : Wb I nB nS ls) (bs : Int32) : SpecF 2 M_X12_areTwo [.ref 57, .int bs] xG1 I J (some (.int (f_isReading I bs))) I J := by
  refine specF_of (L := [some (.ref 57), some (.int bs)]) (by decide) (Nat.le_of_ble_eq_true rfl) rfl ?_
  refine iX12_areTwo_0 (iX12_areTwo_1 (fun h1 => ?_) (fun h1 => ?_))
  · refine iX12_areTwo_30 (iX12_areTwo_31 ?_)
    exact ⟨by simp [f_isReading, *], rfl, rfl, rfl⟩
  · refine iX12_areTwo_4 (iX12_areTwo_5 (iX12_areTwo_6 (iX12_areTwo_8 (by decide) (iX12_areTwo_9 (s_X12_isBill _) ?_))))
    rw [hb_inB h]
    refine iX12_areTwo_12 (fun h12 => ?_) (fun h12 => ?_)
    · refine iX12_areTwo_30 (iX12_areTwo_31 ?_)
      exact ⟨by simp [f_isReading, *], rfl, rfl, rfl⟩
    · refine iX12_areTwo_15 (iX12_areTwo_16 (iX12_areTwo_17 (iX12_areTwo_19 (by decide) (iX12_areTwo_20 (s_X12_isSenator _) ?_))))
      rw [hs_inB h]
      refine iX12_areTwo_23 (fun h23 => ?_) (fun h23 => ?_)
      · refine iX12_areTwo_30 (iX12_areTwo_31 ?_)
        exact ⟨by simp [f_isReading, *], rfl, rfl, rfl⟩
      · refine iX12_areTwo_26 (iX12_areTwo_27 (iX12_areTwo_31 ?_))
        exact ⟨by simp [f_isReading, *], rfl, rfl, rfl⟩
end
/-! a reading in deed -/
def dz (z : Int32) : Int32 := z * 1103515245 + 12345
def ush (z k : Int32) : Int32 := (z.toUInt32 >>> (k.toUInt32 &&& Int32.toUInt32 31)).toInt32
def rm (x m : Int32) : Int32 := x - x / m * m
section
variable {I : xI} {J : xJ}
theorem s_X4_drawBehind (z : Int32) : SpecF 0 M_X4_drawBehind [.int z] xG1 I J (some (.int (dz z))) I J := by
  refine specF_of (L := [some (.int z)]) (by decide) (Nat.le_of_ble_eq_true rfl) rfl ?_
  refine iX4_drawBehind_0 (iX4_drawBehind_1 (iX4_drawBehind_3 (iX4_drawBehind_4 (iX4_drawBehind_7 (iX4_drawBehind_8 ?_)))))
  exact ⟨rfl, rfl, rfl, rfl⟩
theorem s_X4_cries (z c : Int32) : SpecF 0 M_X4_cries [.int z, .int c] xG1 I J (some (.int (if rm (ush z 8) 12 < c then 1 else 0))) I J := by
  refine specF_of (L := [some (.int z), some (.int c)]) (by decide) (Nat.le_of_ble_eq_true rfl) rfl ?_
  refine iX4_cries_0 (iX4_cries_1 (iX4_cries_3 (iX4_cries_4 (iX4_cries_6 (by decide) ?_))))
  rw [show (z.toUInt32 >>> ((8 : Int32).toUInt32 &&& Int32.toUInt32 31)).toInt32 - (z.toUInt32 >>> ((8 : Int32).toUInt32 &&& Int32.toUInt32 31)).toInt32 / 12 * 12 = rm (ush z 8) 12 from rfl]
  refine iX4_cries_7 (iX4_cries_8 (fun h8 => ?_) (fun h8 => ?_))
  · refine iX4_cries_15 (iX4_cries_16 ?_)
    refine ⟨congrArg (fun z => some (Value.int z)) ?_, rfl, rfl, rfl⟩
    grind
  · refine iX4_cries_11 (iX4_cries_12 (iX4_cries_16 ?_))
    refine ⟨congrArg (fun z => some (Value.int z)) ?_, rfl, rfl, rfl⟩
    grind
theorem has_its {w : Nat} (h : 6 ≤ w) (h2 : w ≤ 9) : f_has I 0 (nI w) = 1 := by
  have e1 : ¬ nI w < 0 := nI_pos (by omega)
  have e2 : ¬ 9 < nI w := nI_nlt (b := w) (a := 9) (by omega) (by omega)
  have e3 : ¬ nI w ≤ 3 := nI_ge (a := 3) (b := w) (by omega) (by omega)
  have e4 : ¬ nI w ≤ 5 := nI_ge (a := 5) (b := w) (by omega) (by omega)
  unfold f_has
  grind
theorem g_set_its {w : Nat} (h : 6 ≤ w) (h2 : w ≤ 9) (v : Int32) : g_set I 0 (nI w) v = xu I (7 + w) 0 v := by
  unfold g_set
  rw [has_its h h2, if_neg (by decide), nI_clamp (by omega)]
  rfl
end
def rdC (I : xI) (z v : Int32) (wo : Int32) (cr : Prop) (d : Decidable cr) : xI := @ite _ cr d (xu (xu (xu (xu (xu I 16 0 z) 15 0 v) 38 0 (I 38 0 + 1)) 38 1 (I 38 1 + 1)) 38 4 (I 38 4 + 1)) (xu (xu (xu (xu (xu I 16 0 z) 15 0 v) 38 0 (I 38 0 + 1)) 38 2 (I 38 2 + 1)) 38 3 (I 38 3 + wo))
def rdM (I : xI) (z v : Int32) (wo : Int32) (cr : Prop) (d : Decidable cr) : xI := @ite _ cr d (xu (xu (xu (xu (xu I 64 3 z) 64 2 v) 82 0 (I 82 0 + 1)) 82 1 (I 82 1 + 1)) 82 4 (I 82 4 + 1)) (xu (xu (xu (xu (xu I 64 3 z) 64 2 v) 82 0 (I 82 0 + 1)) 82 2 (I 82 2 + 1)) 82 3 (I 82 3 + wo))
theorem inv_read {I : xI} {J : xJ} (h : Inv I J) {z v wo : Int32} (h0 : 0 ≤ v) (h1 : v ≤ 95) {cr : Prop} {d : Decidable cr} : Inv (rdM (rdC I z v wo cr d) z v wo cr d) J := by
  obtain ⟨hh, hb, hse, hin, hch, hta, hle, him, hcl, hsh, hlw⟩ := id h
  have l0 := hle 0 (by omega)
  have l1 := hle 1 (by omega)
  have l2 := hle 2 (by omega)
  have l3 := hle 3 (by omega)
  have l4 := hle 4 (by omega)
  unfold rdM rdC
  by_cases q : cr
  · simp only [if_pos q]
    refine ⟨?_, ?_, ?_, ?_, ?_, ?_, ?_, ?_, ?_, ?_, ?_⟩
    · simp only [ivHouse, xu] at hh ⊢
      grind
    · intro b hb'
      have := hb b hb'
      simp only [xu]
      grind
    · intro b hb'
      have := hse b hb'
      simp only [xu]
      grind
    · simp only [ivInf, xu] at hin ⊢
      grind
    · exact ivChg_frame hch (by simp [xu_rowf]) (by simp [xu]) (by simp [xu]) (by simp [xu]) (by simp [xu])
    · simp only [ivTape, xu] at hta ⊢
      grind
    · intro b hb'
      have := hle b hb'
      simp only [xu]
      grind
    · simp only [ivImg, xu] at him ⊢
      grind
    · simp only [ivCl, xu] at hcl ⊢
      grind
    · exact ivSh_frame hsh (fun s hs => by simp (disch := omega) only [xu_rowf]) (by simp [xu_rowf]) (by simp [xu_rowf]) (by simp [xu]) (fun _ _ => rfl) rfl
    · exact ivLaw_frame hlw (by simp [lawRows, xu, xu_rowf])
  · simp only [if_neg q]
    refine ⟨?_, ?_, ?_, ?_, ?_, ?_, ?_, ?_, ?_, ?_, ?_⟩
    · simp only [ivHouse, xu] at hh ⊢
      grind
    · intro b hb'
      have := hb b hb'
      simp only [xu]
      grind
    · intro b hb'
      have := hse b hb'
      simp only [xu]
      grind
    · simp only [ivInf, xu] at hin ⊢
      grind
    · exact ivChg_frame hch (by simp [xu_rowf]) (by simp [xu]) (by simp [xu]) (by simp [xu]) (by simp [xu])
    · simp only [ivTape, xu] at hta ⊢
      grind
    · intro b hb'
      have := hle b hb'
      simp only [xu]
      grind
    · simp only [ivImg, xu] at him ⊢
      grind
    · simp only [ivCl, xu] at hcl ⊢
      grind
    · exact ivSh_frame hsh (fun s hs => by simp (disch := omega) only [xu_rowf]) (by simp [xu_rowf]) (by simp [xu_rowf]) (by simp [xu]) (fun _ _ => rfl) rfl
    · exact ivLaw_frame hlw (by simp [lawRows, xu, xu_rowf])
theorem xFr.cong {S : List Nat} {I I1 : xI} {a j : Nat} {v v1 : Int32} (h : xFr S I I1) (hv : v1 = v) : xFr S (xu I a j v) (xu I1 a j v1) := fun b hb => by
  subst hv
  funext c
  simp only [xu]
  rw [h b hb]
theorem rdC_fr {S : List Nat} {I I1 : xI} {z v wo : Int32} {cr : Prop} {d : Decidable cr} (h : xFr S I I1) (h38 : 38 ∉ S) : xFr S (rdC I z v wo cr d) (rdC I1 z v wo cr d) := by
  have e := h 38 h38
  unfold rdC
  by_cases q : cr
  · simp only [if_pos q]
    exact ((((h.cong rfl).cong rfl).cong (by rw [e])).cong (by rw [e])).cong (by rw [e])
  · simp only [if_neg q]
    exact ((((h.cong rfl).cong rfl).cong (by rw [e])).cong (by rw [e])).cong (by rw [e])
theorem rdM_fr {S : List Nat} {I I1 : xI} {z v wo : Int32} {cr : Prop} {d : Decidable cr} (h : xFr S I I1) (h38 : 82 ∉ S) : xFr S (rdM I z v wo cr d) (rdM I1 z v wo cr d) := by
  have e := h 82 h38
  unfold rdM
  by_cases q : cr
  · simp only [if_pos q]
    exact ((((h.cong rfl).cong rfl).cong (by rw [e])).cong (by rw [e])).cong (by rw [e])
  · simp only [if_neg q]
    exact ((((h.cong rfl).cong rfl).cong (by rw [e])).cong (by rw [e])).cong (by rw [e])
theorem rdC_row {I : xI} {z v wo : Int32} {cr : Prop} {d : Decidable cr} {a : Nat} (h1 : a ≠ 15) (h2 : a ≠ 16) (h3 : a ≠ 38) : rdC I z v wo cr d a = I a := by
  unfold rdC
  by_cases q : cr
  · simp only [if_pos q]
    rw [xu_rowf h3, xu_rowf h3, xu_rowf h3, xu_rowf h1, xu_rowf h2]
  · simp only [if_neg q]
    rw [xu_rowf h3, xu_rowf h3, xu_rowf h3, xu_rowf h1, xu_rowf h2]
section
variable {I : xI} {J : xJ} {nB nS b s : Nat} {ls : lwT}
theorem s_X4_hear (h : Wd I nB nS ls) (hb : b < nB) (hs : s < nS) : Spec 15 (1000000, 0, 0) M_X4_hear [.ref 37, .int (nI (10 * b + s))] xG1 I J (fun r g i j => r = some (.int (if rm (ush (dz (I 16 0)) 8) 12 < nI (nxN I ls b s) then 0 else 1)) ∧ g = xG1 ∧ xFr [4, 5] (rdC I (dz (I 16 0)) (if rm (ush (dz (I 16 0)) 8) 12 < nI (nxN I ls b s) then 0 else f_min 95 (I 15 0 + I 7 b)) (I 10 b) (rm (ush (dz (I 16 0)) 8) 12 < nI (nxN I ls b s)) inferInstance) i ∧ j = J) := by
  have hb10 : b < 10 := by have := h.2.1; omega
  have hs6 : s < 6 := by have := h.2.2.2.1; omega
  obtain ⟨hB, hS⟩ := h.le
  have e9 : f_get I 0 9 = I 16 0 := f_get_its 9 (by omega) (by omega)
  refine spec_of (L := [some (.ref 37), some (.int (nI (10 * b + s))), none, none, none]) (by decide) (Nat.le_of_ble_eq_true rfl) rfl ?_
  generalize hz : dz (I 16 0) = z
  generalize hc : nxN I ls b s = c
  have sp := s_X5_cryingNow (J := J) h hb hs
  rw [hc] at sp
  have key : ∀ I1, xFr [4, 5] I I1 → ∀ x4, WP 15 (1000000, 0, 0) none M_X4_hear (fun r g i j => r = some (.int (if rm (ush z 8) 12 < nI c then 0 else 1)) ∧ g = xG1 ∧ xFr [4, 5] (rdC I z (if rm (ush z 8) 12 < nI c then 0 else f_min 95 (I 15 0 + I 7 b)) (I 10 b) (rm (ush z 8) 12 < nI c) inferInstance) i ∧ j = J) 25 [some (.ref 37), some (.int (nI (10 * b + s))), some (.int z), none, x4] [.int (if rm (ush z 8) 12 < nI c then 1 else 0)] xG1 I1 J := by
    intro I1 h1 x4
    have f1 := Fq.of h1 (by decide)
    have w1 := h.fr f1
    obtain ⟨hB1, hS1⟩ := w1.le
    have e8 : f_get I1 0 8 = I 15 0 := (f_get_its 8 (by omega) (by omega)).trans (by rw [f1.1 15 (by decide) (by decide)])
    have hs2 : f_sinceB I1 (nI (10 * b + s)) (I 15 0) = f_min 95 (I 15 0 + I 7 b) := by
      unfold f_sinceB
      rw [bs_div (by omega) (by omega), show f_get I1 (nI b) 0 = I1 7 b from get_b w1 hb (w := 0) (by omega), f1.1 7 (by decide) (by decide)]
    have g9 : g_set I1 0 9 z = xu I1 16 0 z := g_set_its (w := 9) (by omega) (by omega) z
    have g8 : ∀ v, g_set (xu I1 16 0 z) 0 8 v = xu (xu I1 16 0 z) 15 0 v := fun v => g_set_its (w := 8) (by omega) (by omega) v
    have ew : ∀ I2 : xI, (∀ a, a ≠ 15 → a ≠ 16 → a ≠ 38 → I2 a = I1 a) → f_get I2 (nI (10 * b + s) / 10) 3 = I 10 b := fun I2 h2 => by
      rw [bs_div (by omega) (by omega)]
      have : f_get I2 (nI b) 3 = f_get I1 (nI b) 3 := by
        unfold f_get f_has
        rw [h2 1 (by decide) (by decide) (by decide), show (7 + (3 : Int32).toNatClampNeg) = 10 from rfl, h2 10 (by decide) (by decide) (by decide)]
      rw [this, show f_get I1 (nI b) 3 = I1 10 b from get_b w1 hb (w := 3) (by omega), f1.1 10 (by decide) (by decide)]
    have e38 := h1 38 (by decide)
    by_cases q : rm (ush z 8) 12 < nI c
    · simp only [if_pos q]
      refine iX4_hear_25 (iX4_hear_26 (iX4_hear_27 (iX4_hear_30 (iX4_hear_31 (iX4_hear_32 (iX4_hear_35 (iX4_hear_37 (s_X5_its 8 hB1 hS1) ?_)))))))
      rw [e8]
      refine iX4_hear_40 (s_X5_sinceBehind _ _ hB1 hS1) ?_
      rw [hs2]
      refine iX4_hear_43 (iX4_hear_45 (iX4_hear_46 (iX4_hear_49 (iX4_hear_50 (iX4_hear_52 (iX4_hear_53 (s_X5_set 0 9 z hB1 hS1) ?_))))))
      rw [g9]
      refine iX4_hear_56 (iX4_hear_57 (iX4_hear_60 (iX4_hear_61 (iX4_hear_63 (iX4_hear_64 (fun h64 => absurd h64 ((by decide : ¬ (1 : Int32) = 0))) (fun h64 => ?_))))))
      refine iX4_hear_67 (iX4_hear_68 (iX4_hear_73 (s_X5_set 0 8 0 hB1 hS1) ?_))
      rw [g8]
      refine iX4_hear_76 (iX4_hear_77 (iX4_hear_80 (iX4_hear_81 (iX4_hear_82 (vin 6 (by decide) (by decide) (by decide)) (iX4_hear_83 (iX4_hear_84 (iX4_hear_85 (vin 6 (by decide) (by decide) (by decide)) (iX4_hear_86 (iX4_hear_87 (fun h87 => absurd h87 ((by decide : ¬ (1 : Int32) = 0))) (fun h87 => ?_))))))))))
      refine iX4_hear_90 (iX4_hear_91 (iX4_hear_94 (iX4_hear_95 (iX4_hear_96 (vin 6 (by decide) (by decide) (by decide)) (iX4_hear_97 (iX4_hear_98 (iX4_hear_99 (vin 6 (by decide) (by decide) (by decide)) (iX4_hear_100 (iX4_hear_101 (iX4_hear_104 (iX4_hear_105 (iX4_hear_106 (vin 6 (by decide) (by decide) (by decide)) (iX4_hear_107 (iX4_hear_108 (iX4_hear_109 (vin 6 (by decide) (by decide) (by decide)) (iX4_hear_110 (iX4_hear_140 (iX4_hear_141 (fun h141 => absurd h141 ((by decide : ¬ (1 : Int32) = 0))) (fun h141 => ?_)))))))))))))))))))
      refine iX4_hear_144 (iX4_hear_145 (iX4_hear_149 ?_))
      refine ⟨rfl, rfl, ?_, rfl⟩
      have := rdC_fr (z := z) (v := 0) (wo := I 10 b) (cr := rm (ush z 8) 12 < nI c) (d := inferInstance) h1 (by decide)
      unfold rdC at this ⊢
      simp only [if_pos q] at this ⊢
      exact this
    · simp only [if_neg q]
      refine iX4_hear_25 (iX4_hear_26 (iX4_hear_27 (iX4_hear_30 (iX4_hear_31 (iX4_hear_32 (iX4_hear_35 (iX4_hear_37 (s_X5_its 8 hB1 hS1) ?_)))))))
      rw [e8]
      refine iX4_hear_40 (s_X5_sinceBehind _ _ hB1 hS1) ?_
      rw [hs2]
      refine iX4_hear_43 (iX4_hear_45 (iX4_hear_46 (iX4_hear_49 (iX4_hear_50 (iX4_hear_52 (iX4_hear_53 (s_X5_set 0 9 z hB1 hS1) ?_))))))
      rw [g9]
      refine iX4_hear_56 (iX4_hear_57 (iX4_hear_60 (iX4_hear_61 (iX4_hear_63 (iX4_hear_64 (fun h64 => ?_) (fun h64 => by first | exact absurd (rfl) h64 | exact absurd h64 (rfl)))))))
      refine iX4_hear_71 (iX4_hear_73 (s_X5_set 0 8 _ hB1 hS1) ?_)
      rw [g8]
      refine iX4_hear_76 (iX4_hear_77 (iX4_hear_80 (iX4_hear_81 (iX4_hear_82 (vin 6 (by decide) (by decide) (by decide)) (iX4_hear_83 (iX4_hear_84 (iX4_hear_85 (vin 6 (by decide) (by decide) (by decide)) (iX4_hear_86 (iX4_hear_87 (fun h87 => ?_) (fun h87 => by first | exact absurd (rfl) h87 | exact absurd h87 (rfl)))))))))))
      refine iX4_hear_113 (iX4_hear_114 (iX4_hear_117 (iX4_hear_118 (iX4_hear_119 (vin 6 (by decide) (by decide) (by decide)) (iX4_hear_120 (iX4_hear_121 (iX4_hear_122 (vin 6 (by decide) (by decide) (by decide)) (iX4_hear_123 (iX4_hear_124 (iX4_hear_127 (iX4_hear_128 (iX4_hear_129 (vin 6 (by decide) (by decide) (by decide)) (iX4_hear_130 (iX4_hear_131 (iX4_hear_134 (iX4_hear_135 (s_X5_worth _ (by exact hB1) (by exact hS1)) ?_))))))))))))))))
      rw [ew _ (fun a z1 z2 z3 => by simp only [xu_rowf z1, xu_rowf z2, xu_rowf z3])]
      refine iX4_hear_138 (iX4_hear_139 (vin 6 (by decide) (by decide) (by decide)) (iX4_hear_140 (iX4_hear_141 (fun h141 => ?_) (fun h141 => by first | exact absurd (rfl) h141 | exact absurd h141 (rfl)))))
      refine iX4_hear_148 (iX4_hear_149 ?_)
      refine ⟨rfl, rfl, ?_, rfl⟩
      have := rdC_fr (z := z) (v := f_min 95 (I 15 0 + I 7 b)) (wo := I 10 b) (cr := rm (ush z 8) 12 < nI c) (d := inferInstance) h1 (by decide)
      unfold rdC at this ⊢
      simp only [if_neg q] at this ⊢
      exact this
  refine iX4_hear_0 (iX4_hear_1 (iX4_hear_4 (iX4_hear_6 (s_X5_its 9 hB hS) ?_)))
  rw [e9]
  refine iX4_hear_9 (s_X4_drawBehind _) ?_
  rw [hz]
  refine iX4_hear_12 (iX4_hear_13 (iX4_hear_14 (iX4_hear_15 (iX4_hear_18 (jX4_hear_19 sp (fun r19 g19 I19 J19 hq => ?_))))))
  obtain ⟨rfl, rfl, hq3, rfl⟩ := hq
  refine iX4_hear_22 (s_X4_cries _ _) ?_
  exact key _ hq3 _
theorem m_readk {i0 A B I1 : xI} {z v : Int32} {c : Nat} (hb10 : b < 10) (eb : nI (10 * b + s) / 10 = nI b) (h1 : xFr [75, 76] B I1) (hA : xu i0 64 3 z = A) (hB : xu (xu A 64 2 v) 82 0 (i0 82 0 + 1) = B) : WP 1000 (1000000, 0, 0) none M_X12_read (fun r g i j => r = some (.int (if rm (ush z 8) 12 < nI c then 0 else 1)) ∧ g = xG1 ∧ xFr [75, 76] (rdM i0 z (if rm (ush z 8) 12 < nI c then 0 else v) (i0 61 b) (rm (ush z 8) 12 < nI c) inferInstance) i ∧ j = J) 99 [some (.ref 57), some (.int (nI (10 * b + s))), some (.int z)] [.int (nI c), .int (rm (ush z 8) 12)] xG1 I1 J := by
  have eC : (0 : Int32).toNatClampNeg = 0 ∧ (1 : Int32).toNatClampNeg = 1 ∧ (2 : Int32).toNatClampNeg = 2 ∧ (3 : Int32).toNatClampNeg = 3 ∧ (4 : Int32).toNatClampNeg = 4 := by decide
  obtain ⟨c0, c1, c2, c3, c4⟩ := eC
  have e82 : I1 82 = B 82 := h1 82 (by decide)
  have B82 : ∀ k, k ≠ 0 → B 82 k = i0 82 k := fun k hk => by rw [← hB, xu_col hk, xu_row (by decide), ← hA, xu_row (by decide)]
  have e61 : I1 61 b = i0 61 b := by rw [h1 61 (by decide), ← hB, xu_row (by decide), xu_row (by decide), ← hA, xu_row (by decide)]
  by_cases q : rm (ush z 8) 12 < nI c
  · have e : rdM i0 z 0 (i0 61 b) (rm (ush z 8) 12 < nI c) inferInstance = xu (xu (xu B 64 2 0) 82 1 (i0 82 1 + 1)) 82 4 (i0 82 4 + 1) := by
      unfold rdM
      rw [if_pos q, ← hB, ← hA]
      funext a k
      simp only [xu]
      grind
    simp only [if_pos q]
    rw [e]
    refine iX12_read_99 (fun h99 => absurd h99 (Int32.not_le.mpr q)) (fun h99 => ?_)
    refine iX12_read_102 (iX12_read_103 (iX12_read_106 (iX12_read_107 (iX12_read_108 (vin 4 (by decide) (by decide) (by decide)) (iX12_read_109 (iX12_read_110 (iX12_read_113 (iX12_read_114 (iX12_read_115 (vin 6 (by decide) (by decide) (by decide)) (iX12_read_116 (iX12_read_117 (iX12_read_118 (vin 6 (by decide) (by decide) (by decide)) (iX12_read_119 (iX12_read_120 (iX12_read_123 (iX12_read_124 (iX12_read_125 (vin 6 (by decide) (by decide) (by decide)) (iX12_read_126 (iX12_read_127 (iX12_read_128 (vin 6 (by decide) (by decide) (by decide)) (iX12_read_129 (iX12_read_130 ?_))))))))))))))))))))))
    refine ⟨rfl, rfl, ?_, rfl⟩
    simp only [c1, c2, c4]
    exact ((h1.cong rfl).cong (by rw [xu_row (by decide), e82, B82 1 (by decide)])).cong (by rw [xu_col (by decide), xu_row (by decide), e82, B82 4 (by decide)])
  · have e : rdM i0 z v (i0 61 b) (rm (ush z 8) 12 < nI c) inferInstance = xu (xu B 82 2 (i0 82 2 + 1)) 82 3 (i0 82 3 + i0 61 b) := by
      unfold rdM
      rw [if_neg q, ← hB, ← hA]
    simp only [if_neg q]
    rw [e]
    refine iX12_read_99 (fun h99 => ?_) (fun h99 => by first | exact absurd (Int32.not_lt.mp q) h99 | exact absurd h99 (Int32.not_lt.mp q))
    refine iX12_read_131 (iX12_read_132 (iX12_read_135 (iX12_read_136 (iX12_read_137 (vin 6 (by decide) (by decide) (by decide)) (iX12_read_138 (iX12_read_139 (iX12_read_140 (vin 6 (by decide) (by decide) (by decide)) (iX12_read_141 (iX12_read_142 (iX12_read_145 (iX12_read_146 (iX12_read_147 (vin 6 (by decide) (by decide) (by decide)) (iX12_read_148 (iX12_read_149 (iX12_read_152 (iX12_read_153 (iX12_read_155 (by decide) ?_)))))))))))))))))
    rw [eb]
    refine iX12_read_156 (vp_in_nI (by omega) (by omega)) ?_
    rw [nI_clamp (by omega), xu_row (by decide), e61]
    refine iX12_read_157 (iX12_read_158 (vin 6 (by decide) (by decide) (by decide)) (iX12_read_159 (iX12_read_160 ?_)))
    refine ⟨rfl, rfl, ?_, rfl⟩
    simp only [c2, c3]
    exact (h1.cong (by rw [e82, B82 2 (by decide)])).cong (by rw [xu_col (by decide), e82, B82 3 (by decide)])
theorem m_read {i0 : xI} (h : Wb i0 nB nS ls) (hb : b < nB) (hs : s < nS) {sd si te wi : Int32} (e3 : i0 64 3 = sd) (e2 : i0 64 2 = si) (e0 : i0 64 0 = te) (e1 : i0 64 1 = wi) (hR : f_isReading i0 (nI (10 * b + s)) = 1) : Spec 1000 (1000000, 0, 0) M_X12_read [.ref 57, .int (nI (10 * b + s))] xG1 i0 J (fun r g i j => r = some (.int (if rm (ush (dz sd) 8) 12 < nI (cyN i0 ls (f_min 95 (si + i0 7 b)) te wi b s) then 0 else 1)) ∧ g = xG1 ∧ xFr [75, 76] (rdM i0 (dz sd) (if rm (ush (dz sd) 8) 12 < nI (cyN i0 ls (f_min 95 (si + i0 7 b)) te wi b s) then 0 else f_min 95 (si + i0 7 b)) (i0 10 b) (rm (ush (dz sd) 8) 12 < nI (cyN i0 ls (f_min 95 (si + i0 7 b)) te wi b s)) inferInstance) i ∧ j = J) := by
  have hb10 : b < 10 := by have := h.2.1; omega
  have hs6 : s < 6 := by have := h.2.2.2.1; omega
  have eb : nI (10 * b + s) / 10 = nI b := bs_div hb10 (by omega)
  have es : nI (10 * b + s) - nI b * 10 = nI s := bs_rem hb10 (by omega)
  have e61 : i0 61 b = i0 10 b := (h.2.2.2.2.2.2.1 b hb10).2.2.2.1
  refine spec_of (L := [some (.ref 57), some (.int (nI (10 * b + s))), none]) (by decide) (Nat.le_of_ble_eq_true rfl) rfl ?_
  generalize hz : dz sd = z
  generalize hv : f_min 95 (si + i0 7 b) = v
  generalize hc : cyN i0 ls v te wi b s = c
  have eC : (0 : Int32).toNatClampNeg = 0 ∧ (1 : Int32).toNatClampNeg = 1 ∧ (2 : Int32).toNatClampNeg = 2 ∧ (3 : Int32).toNatClampNeg = 3 ∧ (4 : Int32).toNatClampNeg = 4 := by decide
  obtain ⟨c0, c1, c2, c3, c4⟩ := eC
  have fA : Fb i0 (xu i0 64 3 z) := fun a ha => xu_rowf (fun q => ha (by rw [q]; decide))
  generalize hA : xu i0 64 3 z = A at fA
  have sA := s_X12_sinceWithB (J := J) (h.fr fA) hb si
  rw [show A 7 b = i0 7 b by rw [fA 7 (by decide)], hv] at sA
  have fB : Fb i0 (xu (xu A 64 2 v) 82 0 (i0 82 0 + 1)) := fun a ha => by
    rw [xu_rowf (fun q => ha (by rw [q]; decide)), xu_rowf (fun q => ha (by rw [q]; decide))]
    exact fA a ha
  have eB82 : A 82 0 = i0 82 0 := by rw [← hA]; exact xu_row (by decide)
  have eA2 : A 64 2 = si := by rw [← hA]; exact (xu_col (by decide)).trans e2
  have eA0 : A 64 0 = te := by rw [← hA]; exact (xu_col (by decide)).trans e0
  have eA1 : A 64 1 = wi := by rw [← hA]; exact (xu_col (by decide)).trans e1
  generalize hB : xu (xu A 64 2 v) 82 0 (i0 82 0 + 1) = B at fB
  have eb2 : B 64 2 = v := by rw [← hB]; exact (xu_row (by decide)).trans xu_eq
  have eb0 : B 64 0 = te := by rw [← hB]; exact (xu_row (by decide)).trans ((xu_col (by decide)).trans eA0)
  have eb1 : B 64 1 = wi := by rw [← hB]; exact (xu_row (by decide)).trans ((xu_col (by decide)).trans eA1)
  have sp := s_X12_criesByB (J := J) (h.fr fB) hb hs v te wi
  rw [cyN_fb fB, hc] at sp
  have key : ∀ I1, xFr [75, 76] B I1 → WP 1000 (1000000, 0, 0) none M_X12_read (fun r g i j => r = some (.int (if rm (ush z 8) 12 < nI c then 0 else 1)) ∧ g = xG1 ∧ xFr [75, 76] (rdM i0 z (if rm (ush z 8) 12 < nI c then 0 else v) (i0 10 b) (rm (ush z 8) 12 < nI c) inferInstance) i ∧ j = J) 99 [some (.ref 57), some (.int (nI (10 * b + s))), some (.int z)] [.int (nI c), .int (rm (ush z 8) 12)] xG1 I1 J := by
    intro I1 h1
    rw [← e61]
    exact m_readk hb10 eb h1 hA hB
  refine iX12_read_0 (iX12_read_1 (iX12_read_2 (s_X12_areTwoB h _) (iX12_read_5 (fun h5 => ?_) (fun h5 => by first | exact absurd ((by rw [hR]; decide)) h5 | exact absurd h5 ((by rw [hR]; decide))))))
  refine iX12_read_10 (iX12_read_11 (iX12_read_14 (iX12_read_15 (vin 4 (by decide) (by decide) (by decide)) ?_)))
  rw [show i0 64 (3 : Int32).toNatClampNeg = sd from e3]
  refine iX12_read_16 (iX12_read_19 (iX12_read_20 (iX12_read_23 ?_)))
  rw [show sd * 1103515245 + 12345 = z from hz]
  refine iX12_read_24 (iX12_read_25 (iX12_read_26 (iX12_read_29 (iX12_read_30 (iX12_read_31 (vin 4 (by decide) (by decide) (by decide)) ?_)))))
  rw [c3, hA]
  refine iX12_read_32 (iX12_read_33 (iX12_read_36 (iX12_read_37 (iX12_read_38 (iX12_read_39 (iX12_read_42 (iX12_read_43 (vin 4 (by decide) (by decide) (by decide)) ?_)))))))
  rw [c2, eA2]
  refine iX12_read_44 (iX12_read_45 (iX12_read_47 (by decide) ?_))
  rw [eb]
  refine iX12_read_48 sA (iX12_read_51 (vin 4 (by decide) (by decide) (by decide)) (iX12_read_52 (iX12_read_53 (iX12_read_56 (iX12_read_57 (iX12_read_58 (vin 6 (by decide) (by decide) (by decide)) (iX12_read_59 (iX12_read_60 (iX12_read_61 (vin 6 (by decide) (by decide) (by decide)) ?_)))))))))
  refine WP_I (I' := B) ?_ ?_
  · rw [← hB, c0, c2, xu_row (by decide), eB82]
  refine iX12_read_62 (iX12_read_63 (iX12_read_65 (iX12_read_66 (iX12_read_68 (by decide) ?_))))
  rw [show (z.toUInt32 >>> ((8 : Int32).toUInt32 &&& Int32.toUInt32 31)).toInt32 - (z.toUInt32 >>> ((8 : Int32).toUInt32 &&& Int32.toUInt32 31)).toInt32 / 12 * 12 = rm (ush z 8) 12 from rfl]
  refine iX12_read_69 (iX12_read_70 (iX12_read_71 (iX12_read_74 (iX12_read_75 (vin 4 (by decide) (by decide) (by decide)) (iX12_read_76 (iX12_read_77 (iX12_read_80 (iX12_read_81 (vin 4 (by decide) (by decide) (by decide)) (iX12_read_82 (iX12_read_83 (iX12_read_86 (iX12_read_87 (vin 4 (by decide) (by decide) (by decide)) (iX12_read_88 (iX12_read_89 (iX12_read_91 (by decide) (iX12_read_92 (iX12_read_93 (iX12_read_95 (by decide) ?_))))))))))))))))))
  rw [c0, c1, c2, eb2, eb0, eb1, eb, es]
  refine jX12_read_96 sp (fun r96 g96 I96 J96 hq => ?_)
  obtain ⟨rfl, rfl, hq3, rfl⟩ := hq
  exact key _ hq3
end
theorem f_min_0 {x : Int32} : f_min 95 x ≤ 95 := by unfold f_min; grind
theorem pp_read : PP_read Inv := by
  intro I J h bs
  obtain ⟨nB, nS, ls, w⟩ := Wd.of h
  rcases isR_cases w bs with q | ⟨q, b, s, hb, hs, rfl⟩
  · refine pair_q (v := -1) h ?_ (fun i j hi hj => ?_)
    · refine spec_of (L := [some (.ref 0), some (.int bs)]) (by decide) (Nat.le_of_ble_eq_true rfl) rfl ?_
      refine iX11_read_0 (iX11_read_1 (iX11_read_4 (iX11_read_5 (s_X5_isReading _) (iX11_read_8 (fun h8 => ?_) (fun h8 => by first | exact absurd (q) h8 | exact absurd h8 (q))))))
      refine iX11_read_22 (iX11_read_23 ?_)
      exact ⟨rfl, rfl, Fq.rf, Fj.rf⟩
    · refine spec_of (L := [some (.ref 57), some (.int bs), none]) (by decide) (Nat.le_of_ble_eq_true rfl) rfl ?_
      refine iX12_read_0 (iX12_read_1 (iX12_read_2 (s_X12_areTwo (w.fr hi) bs) ?_))
      rw [isR_fr hi]
      refine iX12_read_5 (fun h5 => absurd h5 (fun z => z q)) (fun h5 => ?_)
      refine iX12_read_8 (iX12_read_9 ?_)
      exact ⟨rfl, rfl, Fq.rf, Fj.rf⟩
  · have n0 : ¬ f_isReading I (nI (10 * b + s)) = 0 := by rw [q]; decide
    have hb10 : b < 10 := by have := w.2.1; omega
    obtain ⟨j0, j1, j2, j3, j4, j5, j6, j7, j8, j9⟩ := w.2.2.2.2.2.2.2.2.1
    have hbl := w.2.2.2.2.2.2.1 b hb10
    have v0 : 0 ≤ f_min 95 (I 15 0 + I 7 b) := by unfold f_min; grind
    have hx : nxN I ls b s = cyN I ls (f_min 95 (I 15 0 + I 7 b)) (I 13 0) (I 14 0) b s := rfl
    refine ⟨if rm (ush (dz (I 16 0)) 8) 12 < nI (nxN I ls b s) then 0 else 1, fun i j => xFr [4, 5] (rdC I (dz (I 16 0)) (if rm (ush (dz (I 16 0)) 8) 12 < nI (nxN I ls b s) then 0 else f_min 95 (I 15 0 + I 7 b)) (I 10 b) (rm (ush (dz (I 16 0)) 8) 12 < nI (nxN I ls b s)) inferInstance) i ∧ j = J, ?_, fun i j hij => ?_⟩
    · refine spec_of (L := [some (.ref 0), some (.int (nI (10 * b + s)))]) (by decide) (Nat.le_of_ble_eq_true rfl) rfl ?_
      refine iX11_read_0 (iX11_read_1 (iX11_read_4 (iX11_read_5 (s_X5_isReading _) (iX11_read_8 (fun h8 => absurd h8 (n0)) (fun h8 => ?_)))))
      refine iX11_read_11 (iX11_read_12 (iX11_read_15 (jX11_read_16 (s_X4_hear w hb hs) (fun r16 g16 I16 J16 hq => ?_))))
      obtain ⟨rfl, rfl, hq3, rfl⟩ := hq
      refine iX11_read_19 (iX11_read_23 ?_)
      exact ⟨rfl, rfl, hq3, rfl⟩
    · obtain ⟨hi, rfl⟩ := hij
      have rows : ∀ a, a ∉ [4, 5, 15, 16, 38] → i a = I a := fun a ha => by
        simp only [List.mem_cons, List.not_mem_nil, or_false, not_or] at ha
        rw [hi a (by simp only [List.mem_cons, List.not_mem_nil, or_false, not_or]; omega), rdC_row (by omega) (by omega) (by omega)]
      have fb : Fb I i := fun a ha => rows a (by simp only [List.mem_cons, List.not_mem_nil, or_false, not_or] at ha ⊢; omega)
      have hR : f_isReading i (nI (10 * b + s)) = 1 := by
        rw [← q]
        unfold f_isReading f_has
        rw [rows 1 (by decide)]
      have sm := m_read (J := j) (w.b.fr fb) hb hs (sd := I 16 0) (si := I 15 0) (te := I 13 0) (wi := I 14 0) (by rw [rows 64 (by decide)]; exact j3) (by rw [rows 64 (by decide)]; exact j2) (by rw [rows 64 (by decide)]; exact j0) (by rw [rows 64 (by decide)]; exact j1) hR
      rw [cyN_fb fb, rows 7 (by decide), rows 10 (by decide), ← hx] at sm
      refine Spec.weaken (sc := none) sm (fun r g i' j' hp => ?_)
      obtain ⟨p1, p2, p3, rfl⟩ := hp
      refine ⟨p1, p2, ?_⟩
      have hz0 : 0 ≤ (if rm (ush (dz (I 16 0)) 8) 12 < nI (nxN I ls b s) then 0 else f_min 95 (I 15 0 + I 7 b)) := by
        by_cases z : rm (ush (dz (I 16 0)) 8) 12 < nI (nxN I ls b s)
        · rw [if_pos z]; decide
        · rw [if_neg z]; exact v0
      have hz1 : (if rm (ush (dz (I 16 0)) 8) 12 < nI (nxN I ls b s) then 0 else f_min 95 (I 15 0 + I 7 b)) ≤ 95 := by
        by_cases z : rm (ush (dz (I 16 0)) 8) 12 < nI (nxN I ls b s)
        · rw [if_pos z]; decide
        · rw [if_neg z]; exact f_min_0
      exact inv_scr (inv_read h hz0 hz1) ((Fq.of (rdM_fr hi (by decide)) (by decide)).tr (Fq.of p3 (by decide))) Fj.rf
