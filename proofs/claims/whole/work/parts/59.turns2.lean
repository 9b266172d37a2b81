/-! ===== by turns: the reference's, the pair ===== -/
section
variable {I0 : xI} {J : xJ} {nB nS b s : Nat} {ls : lwT}
theorem s_X12_windBy {I : xI} {w m : Nat} (hw : w < 10) (hm : m < 2) : SpecF 0 M_X12_windBy [.int (nI w), .int (nI m)] xG1 I J (some (.int (nI (wm w m)))) I J := by
  have T : ∀ w : Nat, w < 10 → (¬ nI w + 2 < 0) ∧ (9 < nI w + 2 → nI (wm w 0) = 9) ∧ (¬ 9 < nI w + 2 → nI (wm w 0) = nI w + 2) ∧ (nI w - 2 < 0 → nI (wm w 1) = 0) ∧ (¬ nI w - 2 < 0 → ¬ 9 < nI w - 2 ∧ nI (wm w 1) = nI w - 2) := by decide +kernel
  obtain ⟨t1, t2, t3, t4, t5⟩ := T w hw
  refine specF_of (L := [some (.int (nI w)), some (.int (nI m)), none]) (by decide) (Nat.le_of_ble_eq_true rfl) rfl ?_
  have hm2 : m = 0 ∨ m = 1 := by omega
  rcases hm2 with rfl | rfl
  · refine iX12_windBy_0 (iX12_windBy_1 (fun h1 => absurd h1 ((fun z => z rfl))) (fun h1 => ?_))
    refine iX12_windBy_4 (iX12_windBy_5 (iX12_windBy_6 (iX12_windBy_7 (iX12_windBy_22 (iX12_windBy_23 (iX12_windBy_24 (fun h24 => ?_) (fun h24 => ?_)))))))
    · refine iX12_windBy_31 (iX12_windBy_32 (iX12_windBy_34 (fun h34 => ?_) (fun h34 => ?_)))
      · refine iX12_windBy_42 (iX12_windBy_43 ?_)
        refine ⟨congrArg (fun z => some (Value.int z)) ?_, rfl, rfl, rfl⟩
        grind
      · refine iX12_windBy_37 (iX12_windBy_39 (iX12_windBy_43 ?_))
        refine ⟨congrArg (fun z => some (Value.int z)) ?_, rfl, rfl, rfl⟩
        grind
    · refine iX12_windBy_27 (iX12_windBy_28 (iX12_windBy_43 ?_))
      refine ⟨congrArg (fun z => some (Value.int z)) ?_, rfl, rfl, rfl⟩
      grind
  · refine iX12_windBy_0 (iX12_windBy_1 (fun h1 => ?_) (fun h1 => by first | exact absurd ((by decide : ¬ nI 1 = 0)) h1 | exact absurd h1 ((by decide : ¬ nI 1 = 0))))
    refine iX12_windBy_10 (iX12_windBy_11 (iX12_windBy_12 (fun h12 => absurd h12 ((fun z => z rfl))) (fun h12 => ?_)))
    refine iX12_windBy_15 (iX12_windBy_16 (iX12_windBy_17 (iX12_windBy_18 (iX12_windBy_22 (iX12_windBy_23 (iX12_windBy_24 (fun h24 => ?_) (fun h24 => ?_)))))))
    · refine iX12_windBy_31 (iX12_windBy_32 (iX12_windBy_34 (fun h34 => ?_) (fun h34 => ?_)))
      · refine iX12_windBy_42 (iX12_windBy_43 ?_)
        refine ⟨congrArg (fun z => some (Value.int z)) ?_, rfl, rfl, rfl⟩
        grind
      · refine iX12_windBy_37 (iX12_windBy_39 (iX12_windBy_43 ?_))
        refine ⟨congrArg (fun z => some (Value.int z)) ?_, rfl, rfl, rfl⟩
        grind
    · refine iX12_windBy_27 (iX12_windBy_28 (iX12_windBy_43 ?_))
      refine ⟨congrArg (fun z => some (Value.int z)) ?_, rfl, rfl, rfl⟩
      grind
theorem best_it {g : Nat → Nat} (hg : ∀ w, g w ≤ 12) {l : Nat} {f : Bool} {w : Nat} (hw : w < 10) {bs : Int32} (ih : ∀ (f : Bool) (w : Nat), w < 10 → ∀ I, xFr [75, 76] I0 I → Spec (20 + l) (1000000, 0, 0) M_X12_bestOf [.ref 57, .int bs, .int (nI w), .int (nI l), .int (bI f)] xG1 I J (fun r g0 i j => r = some (.int (nI (V g l f w))) ∧ g0 = xG1 ∧ xFr [75, 76] I i ∧ j = J)) {Q : xP} {m a : Nat} (hm : m < 2) (ha : a ≤ 12) (k : ∀ I x7, xFr [75, 76] I0 I → WP (20 + (l + 1)) (1000000, 0, 0) none M_X12_bestOf Q 62 [some (.ref 57), some (.int bs), some (.int (nI w)), some (.int (nI (l + 1))), some (.int (bI f)), some (.int (nI (mm f a (V g l (!f) (wm w m))))), some (.int (nI (m + 1))), x7] [] xG1 I J) : ∀ I x7, xFr [75, 76] I0 I → WP (20 + (l + 1)) (1000000, 0, 0) none M_X12_bestOf Q 62 [some (.ref 57), some (.int bs), some (.int (nI w)), some (.int (nI (l + 1))), some (.int (bI f)), some (.int (nI a)), some (.int (nI m)), x7] [] xG1 I J := by
  intro I x7 hI
  have hv := V_le hg l (!f) (wm w m)
  have ei : nI m + (1) = nI (m + 1) := nI_1 _
  have em : nI (l + 1) - 1 = nI l := nI_pred _
  have f65 : ¬ (2 : Int32) ≤ nI m := nI_ge (b := 2) (a := m) (by omega) (by omega)
  have sp := ih (!f) (wm w m) (wm_lt hw) I hI
  cases f with
  | true =>
    have sp : Spec (20 + l) (1000000, 0, 0) M_X12_bestOf [.ref 57, .int bs, .int (nI (wm w m)), .int (nI l), .int 0] xG1 I J (fun r g0 i j => r = some (.int (nI (V g l false (wm w m)))) ∧ g0 = xG1 ∧ xFr [75, 76] I i ∧ j = J) := sp
    have hv : V g l false (wm w m) ≤ 12 := hv
    by_cases q : V g l false (wm w m) < a
    · have ek : mm true a (V g l (!true) (wm w m)) = V g l false (wm w m) := by simp [mm, bt, q]
      rw [ek] at k
      refine iX12_bestOf_62 (iX12_bestOf_64 (iX12_bestOf_65 (fun h65 => absurd h65 (f65)) (fun h65 => ?_)))
      refine iX12_bestOf_68 (iX12_bestOf_69 (iX12_bestOf_70 (iX12_bestOf_71 (iX12_bestOf_73 (s_X12_windBy hw hm) (hdd := by omega) (iX12_bestOf_76 (iX12_bestOf_77 (iX12_bestOf_78 ?_)))))))
      rw [em]
      refine iX12_bestOf_79 (iX12_bestOf_81 (fun h81 => ?_) (fun h81 => by first | exact absurd ((by decide : ¬ bI true = 0)) h81 | exact absurd h81 ((by decide : ¬ bI true = 0))))
      refine iX12_bestOf_88 (jX12_bestOf_89 sp (hdd := by omega) (fun r89 g89 I89 J89 hq => ?_))
      obtain ⟨rfl, rfl, hq3, rfl⟩ := hq
      refine iX12_bestOf_92 (iX12_bestOf_94 (iX12_bestOf_96 (fun h96 => absurd h96 ((by decide : ¬ bI true = 0))) (fun h96 => ?_)))
      refine iX12_bestOf_99 (iX12_bestOf_101 (iX12_bestOf_103 (fun h103 => absurd h103 (nI_ge q (by omega))) (fun h103 => ?_)))
      refine iX12_bestOf_106 (iX12_bestOf_116 (iX12_bestOf_118 (iX12_bestOf_120 (iX12_bestOf_123 ?_))))
      rw [ei]
      exact k _ _ (hI.tr hq3)
    · have ek : mm true a (V g l (!true) (wm w m)) = a := by simp [mm, bt, q]
      rw [ek] at k
      refine iX12_bestOf_62 (iX12_bestOf_64 (iX12_bestOf_65 (fun h65 => absurd h65 (f65)) (fun h65 => ?_)))
      refine iX12_bestOf_68 (iX12_bestOf_69 (iX12_bestOf_70 (iX12_bestOf_71 (iX12_bestOf_73 (s_X12_windBy hw hm) (hdd := by omega) (iX12_bestOf_76 (iX12_bestOf_77 (iX12_bestOf_78 ?_)))))))
      rw [em]
      refine iX12_bestOf_79 (iX12_bestOf_81 (fun h81 => ?_) (fun h81 => by first | exact absurd ((by decide : ¬ bI true = 0)) h81 | exact absurd h81 ((by decide : ¬ bI true = 0))))
      refine iX12_bestOf_88 (jX12_bestOf_89 sp (hdd := by omega) (fun r89 g89 I89 J89 hq => ?_))
      obtain ⟨rfl, rfl, hq3, rfl⟩ := hq
      refine iX12_bestOf_92 (iX12_bestOf_94 (iX12_bestOf_96 (fun h96 => absurd h96 ((by decide : ¬ bI true = 0))) (fun h96 => ?_)))
      refine iX12_bestOf_99 (iX12_bestOf_101 (iX12_bestOf_103 (fun h103 => ?_) (fun h103 => by first | exact absurd (nI_le (a := a) (b := V g l false (wm w m)) (by omega) (by omega)) h103 | exact absurd h103 (nI_le (a := a) (b := V g l false (wm w m)) (by omega) (by omega)))))
      refine iX12_bestOf_120 (iX12_bestOf_123 ?_)
      rw [ei]
      exact k _ _ (hI.tr hq3)
  | false =>
    have sp : Spec (20 + l) (1000000, 0, 0) M_X12_bestOf [.ref 57, .int bs, .int (nI (wm w m)), .int (nI l), .int 1] xG1 I J (fun r g0 i j => r = some (.int (nI (V g l true (wm w m)))) ∧ g0 = xG1 ∧ xFr [75, 76] I i ∧ j = J) := sp
    have hv : V g l true (wm w m) ≤ 12 := hv
    by_cases q : a < V g l true (wm w m)
    · have ek : mm false a (V g l (!false) (wm w m)) = V g l true (wm w m) := by simp [mm, bt, q]
      rw [ek] at k
      refine iX12_bestOf_62 (iX12_bestOf_64 (iX12_bestOf_65 (fun h65 => absurd h65 (f65)) (fun h65 => ?_)))
      refine iX12_bestOf_68 (iX12_bestOf_69 (iX12_bestOf_70 (iX12_bestOf_71 (iX12_bestOf_73 (s_X12_windBy hw hm) (hdd := by omega) (iX12_bestOf_76 (iX12_bestOf_77 (iX12_bestOf_78 ?_)))))))
      rw [em]
      refine iX12_bestOf_79 (iX12_bestOf_81 (fun h81 => absurd h81 ((by decide : ¬ ¬ bI false = 0))) (fun h81 => ?_))
      refine iX12_bestOf_84 (iX12_bestOf_85 (jX12_bestOf_89 sp (hdd := by omega) (fun r89 g89 I89 J89 hq => ?_)))
      obtain ⟨rfl, rfl, hq3, rfl⟩ := hq
      refine iX12_bestOf_92 (iX12_bestOf_94 (iX12_bestOf_96 (fun h96 => ?_) (fun h96 => by first | exact absurd ((rfl : bI false = 0)) h96 | exact absurd h96 ((rfl : bI false = 0)))))
      refine iX12_bestOf_109 (iX12_bestOf_111 (iX12_bestOf_113 (fun h113 => absurd h113 (nI_ge q (by omega))) (fun h113 => ?_)))
      refine iX12_bestOf_116 (iX12_bestOf_118 (iX12_bestOf_120 (iX12_bestOf_123 ?_)))
      rw [ei]
      exact k _ _ (hI.tr hq3)
    · have ek : mm false a (V g l (!false) (wm w m)) = a := by simp [mm, bt, q]
      rw [ek] at k
      refine iX12_bestOf_62 (iX12_bestOf_64 (iX12_bestOf_65 (fun h65 => absurd h65 (f65)) (fun h65 => ?_)))
      refine iX12_bestOf_68 (iX12_bestOf_69 (iX12_bestOf_70 (iX12_bestOf_71 (iX12_bestOf_73 (s_X12_windBy hw hm) (hdd := by omega) (iX12_bestOf_76 (iX12_bestOf_77 (iX12_bestOf_78 ?_)))))))
      rw [em]
      refine iX12_bestOf_79 (iX12_bestOf_81 (fun h81 => absurd h81 ((by decide : ¬ ¬ bI false = 0))) (fun h81 => ?_))
      refine iX12_bestOf_84 (iX12_bestOf_85 (jX12_bestOf_89 sp (hdd := by omega) (fun r89 g89 I89 J89 hq => ?_)))
      obtain ⟨rfl, rfl, hq3, rfl⟩ := hq
      refine iX12_bestOf_92 (iX12_bestOf_94 (iX12_bestOf_96 (fun h96 => ?_) (fun h96 => by first | exact absurd ((rfl : bI false = 0)) h96 | exact absurd h96 ((rfl : bI false = 0)))))
      refine iX12_bestOf_109 (iX12_bestOf_111 (iX12_bestOf_113 (fun h113 => ?_) (fun h113 => by first | exact absurd (nI_le (a := V g l true (wm w m)) (b := a) (by omega) (by omega)) h113 | exact absurd h113 (nI_le (a := V g l true (wm w m)) (b := a) (by omega) (by omega)))))
      refine iX12_bestOf_120 (iX12_bestOf_123 ?_)
      rw [ei]
      exact k _ _ (hI.tr hq3)
theorem s_X12_bestOf (h : Wd I0 nB nS ls) (hb : b < nB) (hs : s < nS) : ∀ (l : Nat), l ≤ 5 → ∀ (f : Bool) (w : Nat), w < 10 → ∀ I, xFr [75, 76] I0 I → Spec (20 + l) (1000000, 0, 0) M_X12_bestOf [.ref 57, .int (nI (10 * b + s)), .int (nI w), .int (nI l), .int (bI f)] xG1 I J (fun r g0 i j => r = some (.int (nI (V (gW I0 ls b s) l f w))) ∧ g0 = xG1 ∧ xFr [75, 76] I i ∧ j = J) := by
  have hb10 : b < 10 := by have := h.2.1; omega
  have hs6 : s < 6 := by have := h.2.2.2.1; omega
  have eb : nI (10 * b + s) / 10 = nI b := bs_div hb10 (by omega)
  have es : nI (10 * b + s) - nI b * 10 = nI s := bs_rem hb10 (by omega)
  intro l
  induction l with
  | zero =>
    intro _ f w hw I hI
    have fI := Fq.of hI (by decide)
    have wI := h.fr fI
    obtain ⟨i0, i1, i2, -⟩ := wI.2.2.2.2.2.2.2.2.1
    have e7 : I 7 b = I0 7 b := by rw [fI.1 7 (by decide) (by decide)]
    have j2 : I 64 (2 : Int32).toNatClampNeg = I0 15 0 := i2.trans (by rw [fI.1 15 (by decide) (by decide)])
    have j0 : I 64 (0 : Int32).toNatClampNeg = I0 13 0 := i0.trans (by rw [fI.1 13 (by decide) (by decide)])
    have sp := s_X12_criesBy (J := J) wI hb hs (f_min 95 (I0 15 0 + I0 7 b)) (I0 13 0) (nI w)
    rw [show cyN I ls (f_min 95 (I0 15 0 + I0 7 b)) (I0 13 0) (nI w) b s = gW I0 ls b s w from cyN_fr fI] at sp
    refine spec_of (L := [some (.ref 57), some (.int (nI (10 * b + s))), some (.int (nI w)), some (.int (nI 0)), some (.int (bI f)), none, none, none]) (by decide) (Nat.le_of_ble_eq_true rfl) rfl ?_
    refine iX12_bestOf_0 (iX12_bestOf_1 (fun h1 => absurd h1 ((fun z => z rfl))) (fun h1 => ?_))
    refine iX12_bestOf_4 (iX12_bestOf_5 (iX12_bestOf_6 (iX12_bestOf_7 (iX12_bestOf_10 (iX12_bestOf_11 (vin 4 (by decide) (by decide) (by decide)) (iX12_bestOf_12 (iX12_bestOf_13 (iX12_bestOf_15 (by decide) ?_))))))))
    rw [eb, j2]
    refine iX12_bestOf_16 (s_X12_sinceWith wI hb _) ?_
    rw [e7]
    refine iX12_bestOf_19 (iX12_bestOf_20 (iX12_bestOf_23 (iX12_bestOf_24 (vin 4 (by decide) (by decide) (by decide)) ?_)))
    rw [j0]
    refine iX12_bestOf_25 (iX12_bestOf_26 (iX12_bestOf_27 (iX12_bestOf_29 (by decide) (iX12_bestOf_30 (iX12_bestOf_31 (iX12_bestOf_33 (by decide) ?_))))))
    rw [eb, es]
    refine jX12_bestOf_34 sp (fun r34 g34 I34 J34 hq => ?_)
    obtain ⟨rfl, rfl, hq3, rfl⟩ := hq
    refine iX12_bestOf_37 ?_
    exact ⟨rfl, rfl, hq3, rfl⟩
  | succ l ih =>
    intro hl f w hw I hI
    have ih := ih (by omega)
    have hg : ∀ w, gW I0 ls b s w ≤ 12 := fun w => cyN_le
    have em : nI (l + 1) - 1 = nI l := nI_pred _
    have n1 : ¬ nI (l + 1) = 0 := nI_ne0 (by omega) (by omega)
    have hi0 := V_le hg l (!f) w
    have h2 := mm_le (f := f) hi0 (V_le hg l (!f) (wm w 0))
    refine spec_of (L := [some (.ref 57), some (.int (nI (10 * b + s))), some (.int (nI w)), some (.int (nI (l + 1))), some (.int (bI f)), none, none, none]) (by decide) (Nat.le_of_ble_eq_true rfl) rfl ?_
    have rest : ∀ I1 x7, xFr [75, 76] I I1 → WP (20 + (l + 1)) (1000000, 0, 0) none M_X12_bestOf (fun r g0 i j => r = some (.int (nI (V (gW I0 ls b s) (l + 1) f w))) ∧ g0 = xG1 ∧ xFr [75, 76] I i ∧ j = J) 62 [some (.ref 57), some (.int (nI (10 * b + s))), some (.int (nI w)), some (.int (nI (l + 1))), some (.int (bI f)), some (.int (nI (V (gW I0 ls b s) l (!f) w))), some (.int (nI 0)), x7] [] xG1 I1 J := by
      intro I1 x7 hI1
      have ihI : ∀ (f : Bool) (w : Nat), w < 10 → ∀ I1, xFr [75, 76] I I1 → Spec (20 + l) (1000000, 0, 0) M_X12_bestOf [.ref 57, .int (nI (10 * b + s)), .int (nI w), .int (nI l), .int (bI f)] xG1 I1 J (fun r g0 i j => r = some (.int (nI (V (gW I0 ls b s) l f w))) ∧ g0 = xG1 ∧ xFr [75, 76] I1 i ∧ j = J) := fun f w hw I1 h1 => ih f w hw I1 (hI.tr h1)
      refine best_it hg hw ihI (m := 0) (by omega) hi0 (fun I2 x7 hI2 => ?_) I1 x7 hI1
      refine best_it hg hw ihI (m := 1) (by omega) h2 (fun I3 x7 hI3 => ?_) I2 x7 hI2
      refine iX12_bestOf_62 (iX12_bestOf_64 (iX12_bestOf_65 (fun h65 => ?_) (fun h65 => by first | exact absurd ((by decide : (2 : Int32) ≤ nI (1 + 1))) h65 | exact absurd h65 ((by decide : (2 : Int32) ≤ nI (1 + 1))))))
      refine iX12_bestOf_126 (iX12_bestOf_128 ?_)
      exact ⟨rfl, rfl, hI3, rfl⟩
    have sp := ih (!f) w hw I hI
    cases f with
    | true =>
      have sp : Spec (20 + l) (1000000, 0, 0) M_X12_bestOf [.ref 57, .int (nI (10 * b + s)), .int (nI w), .int (nI l), .int 0] xG1 I J (fun r g0 i j => r = some (.int (nI (V (gW I0 ls b s) l false w))) ∧ g0 = xG1 ∧ xFr [75, 76] I i ∧ j = J) := sp
      refine iX12_bestOf_0 (iX12_bestOf_1 (fun h1 => ?_) (fun h1 => by first | exact absurd (n1) h1 | exact absurd h1 (n1)))
      refine iX12_bestOf_38 (iX12_bestOf_39 (iX12_bestOf_40 (iX12_bestOf_41 (iX12_bestOf_42 (iX12_bestOf_43 ?_)))))
      rw [em]
      refine iX12_bestOf_44 (iX12_bestOf_46 (fun h46 => ?_) (fun h46 => by first | exact absurd ((by decide : ¬ bI true = 0)) h46 | exact absurd h46 ((by decide : ¬ bI true = 0))))
      refine iX12_bestOf_53 (jX12_bestOf_54 sp (hdd := by omega) (fun r54 g54 I54 J54 hq => ?_))
      obtain ⟨rfl, rfl, hq3, rfl⟩ := hq
      refine iX12_bestOf_57 (iX12_bestOf_59 (iX12_bestOf_60 ?_))
      exact rest _ _ hq3
    | false =>
      have sp : Spec (20 + l) (1000000, 0, 0) M_X12_bestOf [.ref 57, .int (nI (10 * b + s)), .int (nI w), .int (nI l), .int 1] xG1 I J (fun r g0 i j => r = some (.int (nI (V (gW I0 ls b s) l true w))) ∧ g0 = xG1 ∧ xFr [75, 76] I i ∧ j = J) := sp
      refine iX12_bestOf_0 (iX12_bestOf_1 (fun h1 => ?_) (fun h1 => by first | exact absurd (n1) h1 | exact absurd h1 (n1)))
      refine iX12_bestOf_38 (iX12_bestOf_39 (iX12_bestOf_40 (iX12_bestOf_41 (iX12_bestOf_42 (iX12_bestOf_43 ?_)))))
      rw [em]
      refine iX12_bestOf_44 (iX12_bestOf_46 (fun h46 => absurd h46 ((by decide : ¬ ¬ bI false = 0))) (fun h46 => ?_))
      refine iX12_bestOf_49 (iX12_bestOf_50 (jX12_bestOf_54 sp (hdd := by omega) (fun r54 g54 I54 J54 hq => ?_)))
      obtain ⟨rfl, rfl, hq3, rfl⟩ := hq
      refine iX12_bestOf_57 (iX12_bestOf_59 (iX12_bestOf_60 ?_))
      exact rest _ _ hq3
theorem s_X7_outcome {I : xI} : SpecF 0 M_X7_outcome [.ref 34] xG1 I J (some (.int (I 34 3))) I J := by
  refine specF_of (L := [some (.ref 34)]) (by decide) (Nat.le_of_ble_eq_true rfl) rfl ?_
  refine iX7_outcome_0 (iX7_outcome_1 (iX7_outcome_4 ?_))
  exact ⟨rfl, rfl, rfl, rfl⟩
theorem s_X7_firstMove {I : xI} : SpecF 0 M_X7_firstMove [.ref 34] xG1 I J (some (.int (I 34 4))) I J := by
  refine specF_of (L := [some (.ref 34)]) (by decide) (Nat.le_of_ble_eq_true rfl) rfl ?_
  refine iX7_firstMove_0 (iX7_firstMove_1 (iX7_firstMove_4 ?_))
  exact ⟨rfl, rfl, rfl, rfl⟩
end
theorem isR_01 (I : xI) (bs : Int32) : f_isReading I bs = 0 ∨ f_isReading I bs = 1 := by
  unfold f_isReading
  grind
theorem pp_byTurns : PP_byTurns Inv := by
  intro I J h bs n what
  obtain ⟨nB, nS, ls, w⟩ := Wd.of h
  by_cases hbad : f_isReading I bs = 0 ∨ f_in n 1 5 = 0 ∨ f_in what 0 1 = 0
  · refine pair_q (v := -1) h ?_ (fun i j hi hj => ?_)
    · refine spec_of (L := [some (.ref 0), some (.int bs), some (.int n), some (.int what)]) (by decide) (Nat.le_of_ble_eq_true rfl) rfl ?_
      refine iX11_byTurns_0 (iX11_byTurns_1 (iX11_byTurns_4 (iX11_byTurns_5 (s_X5_isReading _) (iX11_byTurns_8 (fun h8 => ?_) (fun h8 => ?_)))))
      · refine iX11_byTurns_28 (iX11_byTurns_29 ?_)
        exact ⟨rfl, rfl, Fq.rf, Fj.rf⟩
      · refine iX11_byTurns_11 (iX11_byTurns_12 (iX11_byTurns_13 (fun h13 => ?_) (fun h13 => ?_)))
        · refine iX11_byTurns_28 (iX11_byTurns_29 ?_)
          exact ⟨rfl, rfl, Fq.rf, Fj.rf⟩
        · refine iX11_byTurns_16 (iX11_byTurns_17 (iX11_byTurns_18 (fun h18 => ?_) (fun h18 => ?_)))
          · refine iX11_byTurns_28 (iX11_byTurns_29 ?_)
            exact ⟨rfl, rfl, Fq.rf, Fj.rf⟩
          · refine iX11_byTurns_21 (iX11_byTurns_22 (s_X11_isPart _) (iX11_byTurns_25 (fun h25 => ?_) (fun h25 => ?_)))
            · exfalso
              rcases hbad with z | z | z
              · first | exact h8 z | exact h8 (by rw [z])
              · have := f_in_n z
                grind
              · grind
            · refine iX11_byTurns_28 (iX11_byTurns_29 ?_)
              exact ⟨rfl, rfl, Fq.rf, Fj.rf⟩
    · refine spec_of (L := [some (.ref 57), some (.int bs), some (.int n), some (.int what), none]) (by decide) (Nat.le_of_ble_eq_true rfl) rfl ?_
      refine iX12_byTurns_0 (iX12_byTurns_1 (iX12_byTurns_2 (s_X12_areTwo (w.fr hi) bs) ?_))
      rw [isR_fr hi]
      refine iX12_byTurns_5 (fun h5 => ?_) (fun h5 => ?_)
      · refine iX12_byTurns_26 (iX12_byTurns_27 ?_)
        exact ⟨rfl, rfl, Fq.rf, Fj.rf⟩
      · refine iX12_byTurns_8 (iX12_byTurns_9 (iX12_byTurns_10 (iX12_byTurns_11 (s_X12_in _ _ _) (iX12_byTurns_14 (fun h14 => ?_) (fun h14 => ?_)))))
        · refine iX12_byTurns_26 (iX12_byTurns_27 ?_)
          exact ⟨rfl, rfl, Fq.rf, Fj.rf⟩
        · refine iX12_byTurns_17 (iX12_byTurns_18 (iX12_byTurns_19 (iX12_byTurns_20 (s_X12_in _ _ _) (iX12_byTurns_23 (fun h23 => ?_) (fun h23 => ?_)))))
          · exfalso
            grind
          · refine iX12_byTurns_26 (iX12_byTurns_27 ?_)
            exact ⟨rfl, rfl, Fq.rf, Fj.rf⟩
  have h0 : ¬ f_isReading I bs = 0 := fun z => hbad (Or.inl z)
  have h1 : ¬ f_in n 1 5 = 0 := fun z => hbad (Or.inr (Or.inl z))
  have h2 : ¬ f_in what 0 1 = 0 := fun z => hbad (Or.inr (Or.inr z))
  rcases isR_cases w bs with q | ⟨q, b, s, hb, hs, rfl⟩
  · exact absurd q h0
  have n15 := f_in_p h1
  obtain ⟨N, hN, rfl⟩ := nI_of2 (x := n) (M := 5) (n := 5) (by decide) (by grind) n15.2
  have hN1 : 1 ≤ N := by
    have := (nI_leI (a := 1) (b := N) (by omega) (by omega)).mp n15.1
    exact this
  have hinf := w.2.2.2.2.2.2.2.2.1
  obtain ⟨wd, hwd, ew⟩ := nI_of2 (x := I 14 0) (M := 9) (n := 9) (by decide) (by have := hinf.2.2.2.2.2.2.1; grind) hinf.2.2.2.2.2.2.2.1
  have n13 : ¬ nI N < 1 := nI_nlt (b := 1) (a := N) (by omega) (by omega)
  have n18 : ¬ (5 : Int32) < nI N := nI_nlt (b := N) (a := 5) (by omega) (by omega)
  have hcf := ch_first (e := V (gW I ls b s) (N - 1) false) (w := wd)
  have eV : V (gW I ls b s) (N - 1) false (wm wd (ch true (V (gW I ls b s) (N - 1) false) wd)) = V (gW I ls b s) N true wd := by
    have := V_ch (g := gW I ls b s) (l := N - 1) (f := true) (w := wd)
    rw [Nat.sub_add_cancel hN1] at this
    exact this
  rw [eV] at hcf
  have hg : ∀ w, gW I ls b s w ≤ 12 := fun w => cyN_le
  have l1 := V_le hg N true wd
  have l2 := V_le hg (N - 1) false wd
  have l3 := V_le hg (N - 1) false (wm wd 0)
  have em : nI N - 1 = nI (N - 1) := by
    have := nI_pred (N - 1)
    rw [Nat.sub_add_cancel hN1] at this
    exact this
  refine pair_q (v := if what = 0 then nI (V (gW I ls b s) N true wd) else nI (ch true (V (gW I ls b s) (N - 1) false) wd)) h ?_ (fun i j hi hj => ?_)
  · refine spec_of (L := [some (.ref 0), some (.int (nI (10 * b + s))), some (.int (nI N)), some (.int what)]) (by decide) (Nat.le_of_ble_eq_true rfl) rfl ?_
    refine iX11_byTurns_0 (iX11_byTurns_1 (iX11_byTurns_4 (iX11_byTurns_5 (s_X5_isReading _) (iX11_byTurns_8 (fun h8 => absurd h8 (h0)) (fun h8 => ?_)))))
    refine iX11_byTurns_11 (iX11_byTurns_12 (iX11_byTurns_13 (fun h13 => absurd h13 (n13)) (fun h13 => ?_)))
    refine iX11_byTurns_16 (iX11_byTurns_17 (iX11_byTurns_18 (fun h18 => absurd h18 (n18)) (fun h18 => ?_)))
    refine iX11_byTurns_21 (iX11_byTurns_22 (s_X11_isPart _) (iX11_byTurns_25 (fun h25 => ?_) (fun h25 => by first | exact absurd (h2) h25 | exact absurd h25 (h2))))
    refine iX11_byTurns_30 (iX11_byTurns_31 (iX11_byTurns_34 (iX11_byTurns_35 (jX11_byTurns_36 (s_X7_play w hb hs hN1 hN (by omega) ew) (fun r36 g36 I36 J36 hq => ?_)))))
    obtain ⟨rfl, rfl, hq3, rfl, hq5, hq6⟩ := hq
    refine iX11_byTurns_39 (iX11_byTurns_40 (fun h40 => ?_) (fun h40 => ?_))
    · refine iX11_byTurns_53 (iX11_byTurns_54 (iX11_byTurns_57 s_X7_firstMove (iX11_byTurns_60 ?_)))
      refine ⟨?_, rfl, Fq.of hq3 (by decide), Fj.rf⟩
      first | rw [hq5] | rw [hq6]
      first | rw [if_neg ‹_›] | rw [if_pos ‹_›] | rw [if_pos (Decidable.not_not.mp ‹_›)]
    · refine iX11_byTurns_43 (iX11_byTurns_44 (iX11_byTurns_47 s_X7_outcome (iX11_byTurns_50 (iX11_byTurns_60 ?_))))
      refine ⟨?_, rfl, Fq.of hq3 (by decide), Fj.rf⟩
      first | rw [hq5] | rw [hq6]
      first | rw [if_neg ‹_›] | rw [if_pos ‹_›] | rw [if_pos (Decidable.not_not.mp ‹_›)]
  · have wi := w.fr hi
    have eg : gW i ls b s = gW I ls b s := gW_fr hi
    have sB : ∀ (l : Nat), l ≤ 5 → ∀ (f : Bool) (w : Nat), w < 10 → ∀ i1, xFr [75, 76] i i1 → Spec (20 + l) (1000000, 0, 0) M_X12_bestOf [.ref 57, .int (nI (10 * b + s)), .int (nI w), .int (nI l), .int (bI f)] xG1 i1 j (fun r g0 i' j' => r = some (.int (nI (V (gW I ls b s) l f w))) ∧ g0 = xG1 ∧ xFr [75, 76] i1 i' ∧ j' = j) := by
      have := s_X12_bestOf (J := j) wi hb hs
      rw [eg] at this
      exact this
    obtain ⟨i0, i1, i2, -⟩ := wi.2.2.2.2.2.2.2.2.1
    have ewi : ∀ i', xFr [75, 76] i i' → i' 64 (1 : Int32).toNatClampNeg = nI wd := fun i' hi' => by
      rw [hi' 64 (by decide)]
      exact i1.trans (by rw [hi.1 14 (by decide) (by decide)]; exact ew)
    have b1 : ∀ l f w i1, l ≤ 5 → w < 10 → xFr [75, 76] i i1 → f = true → Spec (20 + l) (1000000, 0, 0) M_X12_bestOf [.ref 57, .int (nI (10 * b + s)), .int (nI w), .int (nI l), .int 1] xG1 i1 j (fun r g0 i' j' => r = some (.int (nI (V (gW I ls b s) l true w))) ∧ g0 = xG1 ∧ xFr [75, 76] i1 i' ∧ j' = j) := fun l f w i1 hl hw h1 _ => sB l hl true w hw i1 h1
    have b0 : ∀ l f w i1, l ≤ 5 → w < 10 → xFr [75, 76] i i1 → f = false → Spec (20 + l) (1000000, 0, 0) M_X12_bestOf [.ref 57, .int (nI (10 * b + s)), .int (nI w), .int (nI l), .int 0] xG1 i1 j (fun r g0 i' j' => r = some (.int (nI (V (gW I ls b s) l false w))) ∧ g0 = xG1 ∧ xFr [75, 76] i1 i' ∧ j' = j) := fun l f w i1 hl hw h1 _ => sB l hl false w hw i1 h1
    refine spec_of (L := [some (.ref 57), some (.int (nI (10 * b + s))), some (.int (nI N)), some (.int what), none]) (by decide) (Nat.le_of_ble_eq_true rfl) rfl ?_
    have q65 : nI (V (gW I ls b s) (N - 1) false wd) = nI (V (gW I ls b s) N true wd) ↔ V (gW I ls b s) (N - 1) false wd = V (gW I ls b s) N true wd := nI_eq (by omega) (by omega)
    have q91 : nI (V (gW I ls b s) (N - 1) false (wm wd 0)) = nI (V (gW I ls b s) N true wd) ↔ V (gW I ls b s) (N - 1) false (wm wd 0) = V (gW I ls b s) N true wd := nI_eq (by omega) (by omega)
    refine iX12_byTurns_0 (iX12_byTurns_1 (iX12_byTurns_2 (s_X12_areTwo wi _) ?_))
    rw [isR_fr hi]
    refine iX12_byTurns_5 (fun h5 => absurd h5 (h0)) (fun h5 => ?_)
    refine iX12_byTurns_8 (iX12_byTurns_9 (iX12_byTurns_10 (iX12_byTurns_11 (s_X12_in _ _ _) (iX12_byTurns_14 (fun h14 => absurd h14 (h1)) (fun h14 => ?_)))))
    refine iX12_byTurns_17 (iX12_byTurns_18 (iX12_byTurns_19 (iX12_byTurns_20 (s_X12_in _ _ _) (iX12_byTurns_23 (fun h23 => ?_) (fun h23 => by first | exact absurd (h2) h23 | exact absurd h23 (h2))))))
    refine iX12_byTurns_28 (iX12_byTurns_29 (iX12_byTurns_30 (iX12_byTurns_31 (iX12_byTurns_34 (iX12_byTurns_35 (vin 4 (by decide) (by decide) (by decide)) ?_)))))
    rw [ewi i xFr.rf]
    refine iX12_byTurns_36 (iX12_byTurns_37 (jX12_byTurns_38 (b1 N true wd i hN (by omega) xFr.rf rfl) (hdd := by omega) (fun r38 g38 I38 J38 hq => ?_)))
    obtain ⟨rfl, rfl, hq3, rfl⟩ := hq
    refine iX12_byTurns_41 (iX12_byTurns_43 (iX12_byTurns_44 (fun h44 => ?_) (fun h44 => ?_)))
    · refine iX12_byTurns_50 (iX12_byTurns_51 (iX12_byTurns_52 (iX12_byTurns_53 (iX12_byTurns_56 (iX12_byTurns_57 (vin 4 (by decide) (by decide) (by decide)) ?_)))))
      rw [ewi _ hq3]
      refine iX12_byTurns_58 (iX12_byTurns_59 (iX12_byTurns_60 ?_))
      rw [em]
      refine iX12_byTurns_61 (jX12_byTurns_62 (b0 (N - 1) false wd _ (by omega) (by omega) hq3 rfl) (hdd := by omega) (fun r62 g62 I62 J62 hq => ?_))
      obtain ⟨rfl, rfl, hq4, rfl⟩ := hq
      refine iX12_byTurns_65 (iX12_byTurns_67 (fun h67 => ?_) (fun h67 => ?_))
      · refine iX12_byTurns_72 (iX12_byTurns_73 (iX12_byTurns_74 (iX12_byTurns_75 (iX12_byTurns_78 (iX12_byTurns_79 (vin 4 (by decide) (by decide) (by decide)) ?_)))))
        rw [ewi _ (hq3.tr hq4)]
        refine iX12_byTurns_80 (iX12_byTurns_81 (s_X12_windBy (m := 0) (by omega) (by omega)) (iX12_byTurns_84 (iX12_byTurns_85 (iX12_byTurns_86 ?_))))
        rw [em]
        refine iX12_byTurns_87 (jX12_byTurns_88 (b0 (N - 1) false (wm wd 0) _ (by omega) (wm_lt (by omega)) (hq3.tr hq4) rfl) (hdd := by omega) (fun r88 g88 I88 J88 hq => ?_))
        obtain ⟨rfl, rfl, hq5, rfl⟩ := hq
        refine iX12_byTurns_91 (iX12_byTurns_93 (fun h93 => ?_) (fun h93 => ?_))
        · refine iX12_byTurns_100 (iX12_byTurns_101 ?_)
          refine ⟨?_, rfl, Fq.of ((hq3.tr hq4).tr hq5) (by decide), Fj.rf⟩
          have n1 : ¬ V (gW I ls b s) (N - 1) false wd = V (gW I ls b s) N true wd := fun z => absurd (q65.mpr z) (by grind)
          rw [if_neg (by grind)]
          by_cases q2 : V (gW I ls b s) (N - 1) false (wm wd 0) = V (gW I ls b s) N true wd
          · rw [hcf.2.1 n1 q2]
            first | rfl | exact absurd (q91.mpr q2) ‹_›
          · rw [hcf.2.2 n1 q2]
            first | rfl | exact absurd (q91.mp ‹_›) q2
        · refine iX12_byTurns_96 (iX12_byTurns_97 (iX12_byTurns_101 ?_))
          refine ⟨?_, rfl, Fq.of ((hq3.tr hq4).tr hq5) (by decide), Fj.rf⟩
          have n1 : ¬ V (gW I ls b s) (N - 1) false wd = V (gW I ls b s) N true wd := fun z => absurd (q65.mpr z) (by grind)
          rw [if_neg (by grind)]
          by_cases q2 : V (gW I ls b s) (N - 1) false (wm wd 0) = V (gW I ls b s) N true wd
          · rw [hcf.2.1 n1 q2]
            first | rfl | exact absurd (q91.mpr q2) ‹_›
          · rw [hcf.2.2 n1 q2]
            first | rfl | exact absurd (q91.mp ‹_›) q2
      · refine iX12_byTurns_70 (iX12_byTurns_71 ?_)
        refine ⟨?_, rfl, Fq.of (hq3.tr hq4) (by decide), Fj.rf⟩
        rw [if_neg (by grind), hcf.1 (q65.mp (by grind))]
        rfl
    · refine iX12_byTurns_47 (iX12_byTurns_49 ?_)
      refine ⟨?_, rfl, Fq.of hq3 (by decide), Fj.rf⟩
      rw [if_pos (by grind)]
