/-! ===== the reference's operands ===== -/
theorem name_is {x : Int32} (h : 0 ≤ nameI x) : mAct (-1 - nameI x) = 2 ∧ mWith (-1 - nameI x) = nameI x := by
  rcases nameI_c h with e | e | e | e | e | e <;> rw [e] <;> decide
section
variable {J : xJ} {c l : Nat → Int32} {n : Nat}
theorem s_opens_no {I : xI} {p z : Nat} (hT : TpM c l n I p z 6) : SpecF 1 M_X12_opens [.ref 57] xG1 I J (some (.int 0)) (xu I 57 19 (nI p)) J := by
  obtain ⟨t1, t2, t3, t4, t5, t6, t7, t8, t9, t10⟩ := id hT
  refine specF_of (L := [some (.ref 57)]) (by decide) (Nat.le_of_ble_eq_true rfl) rfl ?_
  refine iX12_opens_0 (iX12_opens_1 (iX12_opens_4 ?_))
  rw [t9]
  refine iX12_opens_6 (fun h6 => absurd h6 ((fun w => w rfl))) (fun h6 => ?_)
  refine iX12_opens_9 (iX12_opens_10 (s_X12_wrong t6 t8) (iX12_opens_13 (iX12_opens_14 ?_)))
  exact ⟨rfl, rfl, rfl, rfl⟩
theorem s_opens_yes {I : xI} {p z o : Nat} (hT : TpM c l n I p z o) (ho : o < 6) : SpecF 1 M_X12_opens [.ref 57] xG1 I J (some (.int 1)) (xu (xu I 57 20 (nI (o + 1))) 57 18 (nI (p + 1))) J := by
  obtain ⟨t1, t2, t3, t4, t5, t6, t7, t8, t9, t10⟩ := id hT
  have n6 : ¬ nI o = 6 := fun w => by
    have h := nI_lt (b := 6) (a := o) ho (by omega)
    rw [w] at h
    exact absurd h (by decide)
  have eo : nI o + 1 = nI (o + 1) := nI_1 _
  have ep : nI p + 1 = nI (p + 1) := nI_1 _
  refine specF_of (L := [some (.ref 57)]) (by decide) (Nat.le_of_ble_eq_true rfl) rfl ?_
  refine iX12_opens_0 (iX12_opens_1 (iX12_opens_4 ?_))
  rw [t9]
  refine iX12_opens_6 (fun h6 => ?_) (fun h6 => by first | exact absurd (n6) h6 | exact absurd h6 (n6))
  refine iX12_opens_15 (iX12_opens_16 (iX12_opens_17 ?_))
  rw [t9]
  refine iX12_opens_20 (iX12_opens_21 ?_)
  rw [eo]
  refine iX12_opens_22 (iX12_opens_25 (iX12_opens_26 (iX12_opens_27 ?_)))
  rw [xu_col (by decide), t6]
  refine iX12_opens_30 (iX12_opens_31 ?_)
  rw [ep]
  refine iX12_opens_32 (iX12_opens_35 (iX12_opens_36 ?_))
  exact ⟨rfl, rfl, rfl, rfl⟩
/-- an operand, but for what it encloses -/
theorem m_opd {o : Option ((Nat → pR) × (Nat → pR))} {D oo : Nat} (hlN : byT l n) (hD : 4 ≤ D) {I : xI} {p z : Nat} (hT : TpM c l n I p z oo) (hz : z ≤ p) (hin : ¬ 0 ≤ nameI (c p) → (c p = 33 ∨ c p = 45 ∨ c p = 40) → WP D (1000000, 0, 0) none M_X12_operand (mR I J z p oo (pOpd c o p)) 34 [some (.ref 57), some (.int (l p))] [] xG1 I J) : Spec D (1000000, 0, 0) M_X12_operand [.ref 57] xG1 I J (mR I J z p oo (pOpd c o p)) := by
  obtain ⟨t1, t2, t3, t4, t5, t6, t7, t8, t9, t10⟩ := id hT
  refine spec_of (L := [some (.ref 57), none]) (by decide) (Nat.le_of_ble_eq_true rfl) rfl ?_
  by_cases q1 : 0 ≤ nameI (c p)
  · have e : pOpd c o p = (true, p + 1, [-1 - nameI (c p)]) := by unfold pOpd; rw [if_pos q1]
    obtain ⟨ea, ew⟩ := name_is q1
    rw [e]
    have hp1 := byT_lt t3 (nameI_ne q1)
    have ep : nI p + 1 = nI (p + 1) := nI_1 _
    have q1' : 0 ≤ nameI (l p) := by rw [t4.name p]; exact q1
    refine iX12_operand_0 (iX12_operand_1 (s_X12_look hlN hT) (hdd := by omega) (iX12_operand_4 (iX12_operand_5 (iX12_operand_6 (s_X12_nameOf _) (hdd := by omega) (iX12_operand_9 (fun h9 => absurd h9 (Int32.not_lt.mpr q1')) (fun h9 => ?_))))))
    refine iX12_operand_12 (iX12_operand_13 (iX12_operand_14 (iX12_operand_15 (s_X12_nameOf _) (hdd := by omega) (iX12_operand_18 (s_X12_addStep (J := J) (z := z) (m := 2) (by omega) t10 (by omega) _) (hdd := by omega) (iX12_operand_21 (iX12_operand_22 (iX12_operand_23 ?_)))))))
    rw [g_add_57 (by decide), t6]
    refine iX12_operand_26 (iX12_operand_27 ?_)
    rw [ep]
    refine iX12_operand_28 (iX12_operand_31 (iX12_operand_154 ?_))
    exact ⟨rfl, rfl, rfl, (g_add_F mF.rf (Nat.le_refl _)).up57 (by decide), xu_eq, Or.inl ⟨rfl, by rw [xu_col (by decide), g_add_57 (by decide)]; exact t8, by rw [xu_col (by decide), g_add_57 (by decide)]; exact t9, by rw [xu_col (by decide)]; exact g_add_21, stM.one (by rw [xu_row (by decide), g_add_at.1, ea]; rfl) (by rw [xu_row (by decide), g_add_at.2, ew, t4.name p])⟩⟩
  · have q1' : ¬ 0 ≤ nameI (l p) := by rw [t4.name p]; exact q1
    by_cases q2 : c p = 33 ∨ c p = 45 ∨ c p = 40
    · refine iX12_operand_0 (iX12_operand_1 (s_X12_look hlN hT) (hdd := by omega) (iX12_operand_4 (iX12_operand_5 (iX12_operand_6 (s_X12_nameOf _) (hdd := by omega) (iX12_operand_9 (fun h9 => ?_) (fun h9 => by first | exact absurd (Int32.not_le.mp q1') h9 | exact absurd h9 (Int32.not_le.mp q1')))))))
      exact hin q1 q2
    · have e : pOpd c o p = pNum c p := by unfold pOpd; rw [if_neg q1, if_neg q2]
      rw [e]
      have sp := s_X12_figure (J := J) hlN hT hz
      refine iX12_operand_0 (iX12_operand_1 (s_X12_look hlN hT) (hdd := by omega) (iX12_operand_4 (iX12_operand_5 (iX12_operand_6 (s_X12_nameOf _) (hdd := by omega) (iX12_operand_9 (fun h9 => ?_) (fun h9 => by first | exact absurd (Int32.not_le.mp q1') h9 | exact absurd h9 (Int32.not_le.mp q1')))))))
      refine iX12_operand_34 (iX12_operand_35 (iX12_operand_37 (fun h37 => absurd h37 (fun w => q2 (Or.inl ((t4.eq p (by decide) (by decide)).mp w)))) (fun h37 => ?_)))
      refine iX12_operand_40 (iX12_operand_41 (iX12_operand_43 (fun h43 => ?_) (fun h43 => by first | exact absurd (fun w => q2 (Or.inr (Or.inl ((t4.eq p (by decide) (by decide)).mp w)))) h43 | exact absurd h43 (fun w => q2 (Or.inr (Or.inl ((t4.eq p (by decide) (by decide)).mp w)))))))
      refine iX12_operand_87 (iX12_operand_88 (iX12_operand_90 (fun h90 => ?_) (fun h90 => by first | exact absurd (fun w => q2 (Or.inr (Or.inr ((t4.eq p (by decide) (by decide)).mp w)))) h90 | exact absurd h90 (fun w => q2 (Or.inr (Or.inr ((t4.eq p (by decide) (by decide)).mp w)))))))
      refine iX12_operand_150 (jX12_operand_151 sp (hdd := by omega) (fun r151 g151 I151 J151 hq => ?_))
      have hq2 := hq
      obtain ⟨rfl, rfl, rfl, -⟩ := hq
      refine iX12_operand_154 ?_
      exact hq2
theorem m_opd0 (hlN : byT l n) : MX c l n J M_X12_operand 4 0 0 := by
  intro I p z hT hz
  obtain ⟨t1, t2, t3, t4, t5, t6, t7, t8, t9, t10⟩ := id hT
  refine m_opd (o := none) (oo := 6 - 0) hlN (by omega) hT hz (fun q1 q2 => ?_)
  have e : pOpd c none p = (false, p, []) := by unfold pOpd; rw [if_neg q1, if_pos q2]
  rw [e]
  have post : mR I J z p (6 - 0) (false, p, []) none xG1 (xu I 57 19 (nI p)) J := ⟨rfl, rfl, rfl, mF.rf.up57 (by decide), by rw [xu_col (by decide)]; exact t6, Or.inr ⟨rfl, xu_eq, z, by omega, by simp only; omega, by rw [xu_col (by decide)]; exact t10⟩⟩
  refine iX12_operand_34 (iX12_operand_35 (iX12_operand_37 (fun h37 => ?_) (fun h37 => ?_)))
  · refine iX12_operand_46 (iX12_operand_47 (s_opens_no hT) (iX12_operand_50 (fun h50 => absurd h50 ((fun w => w rfl))) (fun h50 => ?_)))
    refine iX12_operand_53 ?_
    exact post
  · refine iX12_operand_40 (iX12_operand_41 (iX12_operand_43 (fun h43 => ?_) (fun h43 => ?_)))
    · refine iX12_operand_87 (iX12_operand_88 (iX12_operand_90 (fun h90 => ?_) (fun h90 => ?_)))
      · exfalso
        rcases q2 with w | w | w
        · exact h37 ((t4.eq p (by decide) (by decide)).mpr w)
        · exact h43 ((t4.eq p (by decide) (by decide)).mpr w)
        · exact h90 ((t4.eq p (by decide) (by decide)).mpr w)
      · refine iX12_operand_93 (iX12_operand_94 (s_opens_no hT) (iX12_operand_97 (fun h97 => absurd h97 ((fun w => w rfl))) (fun h97 => ?_)))
        refine iX12_operand_100 ?_
        exact post
    · refine iX12_operand_46 (iX12_operand_47 (s_opens_no hT) (iX12_operand_50 (fun h50 => absurd h50 ((fun w => w rfl))) (fun h50 => ?_)))
      refine iX12_operand_53 ?_
      exact post
theorem m_opdS (hlN : byT l n) {k D : Nat} (hD : 4 ≤ D) (hk : k + 1 ≤ 6) (hO : MX c l n J M_X12_operand D k 0) (hX : MX c l n J M_X12_either (D + 5) k 5) : MX c l n J M_X12_operand (D + 6) (k + 1) 0 := by
  intro I p z hT hz
  obtain ⟨t1, t2, t3, t4, t5, t6, t7, t8, t9, t10⟩ := id hT
  refine m_opd (o := some (levN c (opd c k) 5, opd c k)) (oo := 6 - (k + 1)) hlN (by omega) hT hz (fun q1 q2 => ?_)
  have hp1 : p < n := byT_lt t3 (fun w => by rw [w] at q2; revert q2; decide)
  have ep : nI p + 1 = nI (p + 1) := nI_1 _
  have eo : 6 - (k + 1) + 1 = 6 - k := by omega
  have eo' : nI (6 - k) - 1 = nI (6 - (k + 1)) := by rw [show nI (6 - k) - 1 = nI (6 - k - 1) from pk_sub (a := 6 - k) (b := 1) (by omega), show 6 - k - 1 = 6 - (k + 1) by omega]
  have so := s_opens_yes (J := J) hT (by omega)
  rw [eo] at so
  have fa : mF I (xu (xu I 57 20 (nI (6 - k))) 57 18 (nI (p + 1))) z := (mF.rf.up57 (by decide)).up57 (by decide)
  have hTa : TpM c l n (xu (xu I 57 20 (nI (6 - k))) 57 18 (nI (p + 1))) (p + 1) z (6 - k) := hT.fr fa xu_eq (by omega) (by rw [xu_col (by decide), xu_col (by decide)]; exact t8) (by rw [xu_col (by decide), xu_eq]) (by rw [xu_col (by decide), xu_col (by decide)]; exact t10)
  generalize xu (xu I 57 20 (nI (6 - k))) 57 18 (nI (p + 1)) = Ia at *
  by_cases q3 : c p = 40
  · have e : pOpd c (some (levN c (opd c k) 5, opd c k)) p = pEnc c (levN c (opd c k) 5 (p + 1)) := by unfold pOpd pEnc; rw [if_neg q1, if_pos q2]; simp only; rw [if_pos q3]
    rw [e]
    have sp := hX Ia (p + 1) z hTa (by omega)
    have g := levN_ok t3 (opd_ok t3 k) 5 (p + 1) (by omega) _ _ _ (pR_eta _)
    generalize levN c (opd c k) 5 (p + 1) = S at *
    obtain ⟨g1, g2, g3, g4⟩ := g
    have e40 := (t4.eq p (k := 40) (by decide) (by decide)).mpr q3
    have fin : ∀ (i : xI), mR Ia J z (p + 1) (6 - k) S none xG1 i J → WP (D + 6) (1000000, 0, 0) none M_X12_operand (mR I J z p (6 - (k + 1)) (pEnc c S)) 105 [some (.ref 57), some (.int (l p))] [] xG1 i J := by
      intro i hv
      obtain ⟨-, -, -, f1, f2, f3⟩ := hv
      have f1' := fa.tr f1 (Nat.le_refl _)
      unfold pEnc
      rcases f3 with ⟨hS1, f4, f5, f6, f7⟩ | ⟨hS1, f4, z', f5, f6, f7⟩
      · rw [if_pos hS1]
        have g3 := g3 hS1
        have hTi := hTa.fr f1 f2 g2 f4 f5 f6
        by_cases q : c S.2.1 = 41
        · rw [if_pos q]
          have es : nI S.2.1 + 1 = nI (S.2.1 + 1) := nI_1 _
          refine iX12_operand_105 (iX12_operand_106 ?_)
          rw [f4]
          refine iX12_operand_109 (fun h109 => ?_) (fun h109 => by first | exact absurd ((by decide : (-1 : Int32) < 0)) h109 | exact absurd h109 ((by decide : (-1 : Int32) < 0)))
          refine iX12_operand_113 (iX12_operand_114 (s_X12_look hlN hTi) (hdd := by omega) (iX12_operand_117 (iX12_operand_119 (fun h119 => ?_) (fun h119 => by first | exact absurd ((t4.eq S.2.1 (by decide) (by decide)).mpr q) h119 | exact absurd h119 ((t4.eq S.2.1 (by decide) (by decide)).mpr q)))))
          refine iX12_operand_127 (iX12_operand_128 (iX12_operand_129 ?_))
          rw [f2]
          refine iX12_operand_132 (iX12_operand_133 ?_)
          rw [es]
          refine iX12_operand_134 (iX12_operand_137 (iX12_operand_138 (iX12_operand_139 ?_)))
          rw [xu_col (by decide), f5]
          refine iX12_operand_142 (iX12_operand_143 ?_)
          rw [eo']
          refine iX12_operand_144 (iX12_operand_147 (iX12_operand_154 ?_))
          exact ⟨rfl, rfl, rfl, (f1'.up57 (by decide)).up57 (by decide), by rw [xu_col (by decide), xu_eq], Or.inl ⟨rfl, by rw [xu_col (by decide), xu_col (by decide)]; exact f4, xu_eq, by rw [xu_col (by decide), xu_col (by decide)]; exact f6, f7.fr (fun k hk => ⟨by rw [xu_row (by decide), xu_row (by decide)], by rw [xu_row (by decide), xu_row (by decide)]⟩)⟩⟩
        · rw [if_neg q]
          refine iX12_operand_105 (iX12_operand_106 ?_)
          rw [f4]
          refine iX12_operand_109 (fun h109 => ?_) (fun h109 => by first | exact absurd ((by decide : (-1 : Int32) < 0)) h109 | exact absurd h109 ((by decide : (-1 : Int32) < 0)))
          refine iX12_operand_113 (iX12_operand_114 (s_X12_look hlN hTi) (hdd := by omega) (iX12_operand_117 (iX12_operand_119 (fun h119 => absurd h119 (fun w => q ((t4.eq S.2.1 (by decide) (by decide)).mp w))) (fun h119 => ?_))))
          refine iX12_operand_122 (iX12_operand_123 (s_X12_wrong f2 f4) (hdd := by omega) (iX12_operand_126 ?_))
          exact ⟨rfl, rfl, rfl, f1'.up57 (by decide), by rw [xu_col (by decide)]; exact f2, Or.inr ⟨rfl, xu_eq, z + S.2.2.length, by omega, by simp only; omega, by rw [xu_col (by decide)]; exact f6⟩⟩
      · rw [if_neg (by rw [hS1]; decide)]
        refine iX12_operand_105 (iX12_operand_106 ?_)
        rw [f4]
        refine iX12_operand_109 (fun h109 => absurd h109 (Int32.not_lt.mpr (nI_pos' (by omega)))) (fun h109 => ?_)
        refine iX12_operand_112 ?_
        exact ⟨rfl, rfl, rfl, f1', f2, Or.inr ⟨rfl, f4, z', f5, by simp only; omega, f7⟩⟩
    refine iX12_operand_34 (iX12_operand_35 (iX12_operand_37 (fun h37 => absurd h37 (fun w => absurd (e40.symm.trans w) (by decide))) (fun h37 => ?_)))
    refine iX12_operand_40 (iX12_operand_41 (iX12_operand_43 (fun h43 => ?_) (fun h43 => by first | exact absurd (fun w => absurd (e40.symm.trans w) (by decide)) h43 | exact absurd h43 (fun w => absurd (e40.symm.trans w) (by decide)))))
    refine iX12_operand_87 (iX12_operand_88 (iX12_operand_90 (fun h90 => absurd h90 (fun w => w e40)) (fun h90 => ?_)))
    refine iX12_operand_93 (iX12_operand_94 so (hdd := by omega) (iX12_operand_97 (fun h97 => ?_) (fun h97 => by first | exact absurd ((by decide : ¬ (1 : Int32) = 0)) h97 | exact absurd h97 ((by decide : ¬ (1 : Int32) = 0)))))
    refine iX12_operand_101 (jX12_operand_102 sp (hdd := by omega) (fun r102 g102 I102 J102 hq => ?_))
    have hq2 := hq
    obtain ⟨rfl, rfl, rfl, -⟩ := hq
    exact fin _ hq2
  · obtain ⟨u, m, hu, hm, ea, ew, em⟩ : ∃ (u : Int32) (m : Nat), (if c p = 33 then (-33 : Int32) else -126) = u ∧ m < 128 ∧ mAct u = nI m ∧ mWith u = 0 ∧ ((m = 3 ∧ l p = 33) ∨ (m = 4 ∧ ¬ l p = 33 ∧ l p = 45)) := by
      by_cases q4 : c p = 33
      · exact ⟨-33, 3, by rw [if_pos q4], by omega, by decide, by decide, Or.inl ⟨rfl, (t4.eq p (by decide) (by decide)).mpr q4⟩⟩
      · exact ⟨-126, 4, by rw [if_neg q4], by omega, by decide, by decide, Or.inr ⟨rfl, fun w => q4 ((t4.eq p (by decide) (by decide)).mp w), (t4.eq p (by decide) (by decide)).mpr (by rcases q2 with w | w | w; exact absurd w q4; exact w; exact absurd w q3)⟩⟩
    have e : pOpd c (some (levN c (opd c k) 5, opd c k)) p = pSig u (opd c k (p + 1)) := by unfold pOpd pSig; rw [if_neg q1, if_pos q2]; simp only; rw [if_neg q3, hu]
    rw [e]
    have sp : Spec D (1000000, 0, 0) M_X12_operand [.ref 57] xG1 Ia J (mR Ia J z (p + 1) (6 - k) (opd c k (p + 1))) := hO Ia (p + 1) z hTa (by omega)
    have g := opd_ok t3 k (p + 1) (by omega) _ _ _ (pR_eta _)
    generalize opd c k (p + 1) = S at *
    obtain ⟨g1, g2, g3, g4⟩ := g
    have fin : ∀ (i : xI), mR Ia J z (p + 1) (6 - k) S none xG1 i J → WP (D + 6) (1000000, 0, 0) none M_X12_operand (mR I J z p (6 - (k + 1)) (pSig u S)) 81 [some (.ref 57), some (.int (l p))] [.int 0, .int (nI m), .ref 57] xG1 (xu i 57 20 (i 57 20 - 1)) J := by
      intro i hv
      obtain ⟨-, -, -, f1, f2, f3⟩ := hv
      have f1' := fa.tr f1 (Nat.le_refl _)
      unfold pSig
      rcases f3 with ⟨hS1, f4, f5, f6, f7⟩ | ⟨hS1, f4, z', f5, f6, f7⟩
      · rw [if_pos hS1, f5, eo']
        have g3 := g3 hS1
        refine iX12_operand_81 (s_X12_addStep (J := J) (z := z + S.2.2.length) (m := m) (by omega) (by rw [xu_col (by decide)]; exact f6) hm 0) (hdd := by omega) (iX12_operand_84 (iX12_operand_154 ?_))
        refine ⟨rfl, rfl, rfl, g_add_F (f1'.up57 (by decide)) (by omega), by rw [g_add_57 (by decide), xu_col (by decide)]; exact f2, Or.inl ⟨rfl, by rw [g_add_57 (by decide), xu_col (by decide)]; exact f4, by rw [g_add_57 (by decide), xu_eq], by rw [g_add_21]; simp [Nat.add_assoc], ?_⟩⟩
        refine stM.app (f7.fr (fun k hk => ?_)) (stM.one ?_ ?_)
        · exact ⟨by rw [(g_add_lo (by omega)).1, xu_row (by decide)], by rw [(g_add_lo (by omega)).2, xu_row (by decide)]⟩
        · rw [show 130 + z + S.2.2.length = 130 + (z + S.2.2.length) by omega, g_add_at.1, ea]
        · rw [show 130 + z + S.2.2.length = 130 + (z + S.2.2.length) by omega, g_add_at.2, ew]
      · rw [if_neg (by rw [hS1]; decide)]
        refine iX12_operand_81 (s_X12_addStep (J := J) (z := z') (m := m) (by omega) (by rw [xu_col (by decide)]; exact f7) hm 0) (hdd := by omega) (iX12_operand_84 (iX12_operand_154 ?_))
        exact ⟨rfl, rfl, rfl, g_add_F (f1'.up57 (by decide)) (by omega), by rw [g_add_57 (by decide), xu_col (by decide)]; exact f2, Or.inr ⟨rfl, by rw [g_add_57 (by decide), xu_col (by decide)]; exact f4, z' + 1, by omega, by simp only; omega, g_add_21⟩⟩
    have aft : ∀ (i : xI), mR Ia J z (p + 1) (6 - k) S none xG1 i J → WP (D + 6) (1000000, 0, 0) none M_X12_operand (mR I J z p (6 - (k + 1)) (pSig u S)) 58 [some (.ref 57), some (.int (l p))] [] xG1 i J := by
      intro i hv
      have fin := fin i hv
      rcases em with ⟨rfl, q4⟩ | ⟨rfl, q4, q5⟩
      · refine iX12_operand_58 (iX12_operand_59 (iX12_operand_60 (iX12_operand_63 (iX12_operand_64 (iX12_operand_65 (iX12_operand_68 (iX12_operand_69 (iX12_operand_70 (iX12_operand_72 (fun h72 => absurd h72 (fun w => w q4)) (fun h72 => ?_))))))))))
        refine iX12_operand_75 (iX12_operand_76 (iX12_operand_80 ?_))
        exact fin
      · refine iX12_operand_58 (iX12_operand_59 (iX12_operand_60 (iX12_operand_63 (iX12_operand_64 (iX12_operand_65 (iX12_operand_68 (iX12_operand_69 (iX12_operand_70 (iX12_operand_72 (fun h72 => ?_) (fun h72 => by first | exact absurd (q4) h72 | exact absurd h72 (q4)))))))))))
        refine iX12_operand_79 (iX12_operand_80 ?_)
        exact fin
    have at46 : WP (D + 6) (1000000, 0, 0) none M_X12_operand (mR I J z p (6 - (k + 1)) (pSig u S)) 46 [some (.ref 57), some (.int (l p))] [] xG1 I J := by
      refine iX12_operand_46 (iX12_operand_47 so (hdd := by omega) (iX12_operand_50 (fun h50 => ?_) (fun h50 => by first | exact absurd ((by decide : ¬ (1 : Int32) = 0)) h50 | exact absurd h50 ((by decide : ¬ (1 : Int32) = 0)))))
      refine iX12_operand_54 (jX12_operand_55 sp (hdd := by omega) (fun r55 g55 I55 J55 hq => ?_))
      have hq2 := hq
      obtain ⟨rfl, rfl, rfl, -⟩ := hq
      exact aft _ hq2
    rcases em with ⟨rfl, q4⟩ | ⟨rfl, q4, q5⟩
    · refine iX12_operand_34 (iX12_operand_35 (iX12_operand_37 (fun h37 => ?_) (fun h37 => by first | exact absurd (q4) h37 | exact absurd h37 (q4))))
      exact at46
    · refine iX12_operand_34 (iX12_operand_35 (iX12_operand_37 (fun h37 => absurd h37 (q4)) (fun h37 => ?_)))
      refine iX12_operand_40 (iX12_operand_41 (iX12_operand_43 (fun h43 => absurd h43 (fun w => w q5)) (fun h43 => ?_)))
      exact at46
theorem m_lev5 (hlN : byT l n) {k D : Nat} (hO : MX c l n J M_X12_operand D k 0) : MX c l n J M_X12_either (D + 5) k 5 := m_either hlN (m_both hlN (m_compared hlN (m_sum hlN (m_product hlN hO))))
theorem m_opdA (hlN : byT l n) : ∀ k : Nat, k ≤ 6 → MX c l n J M_X12_operand (4 + 6 * k) k 0
  | 0, _ => m_opd0 hlN
  | k + 1, h => by
    have := m_opdA hlN k (by omega)
    exact m_opdS hlN (Nat.le_add_right 4 (6 * k)) h this (m_lev5 hlN this)
theorem m_ex (hlN : byT l n) : MX c l n J M_X12_either 45 6 5 := m_lev5 hlN (m_opdA hlN 6 (by omega))
end
