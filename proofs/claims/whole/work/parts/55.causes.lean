/-! ===== why it cried ===== -/
def bv (Bf : Nat → Int32) (x : Nat) : Nat := (Bf x).toNatClampNeg
def okT (Bf : Nat → Int32) (L nB nS i : Nat) : Prop := 3 * i + 2 < L ∧ ¬ Bf (3 * i) < 0 ∧ bv Bf (3 * i) < nB ∧ ¬ Bf (3 * i + 1) < 0 ∧ bv Bf (3 * i + 1) < nS ∧ (Bf (3 * i + 2) = 0 ∨ Bf (3 * i + 2) = 1)
theorem bv_nI {Bf : Nat → Int32} {x : Nat} (h : ¬ Bf x < 0) : Bf x = nI (bv Bf x) := (clamp_nI (by grind)).symm
theorem bv_31 {Bf : Nat → Int32} {x : Nat} (h : ¬ Bf x < 0) : bv Bf x < 2 ^ 31 := by
  obtain ⟨n, hn, e⟩ := nI_of h
  unfold bv
  rw [e, nI_clamp hn]
  exact hn
noncomputable def wt (I : xI) (ls : lwT) (Bf : Nat → Int32) (L nB nS : Nat) (t w : Int32) : Nat → Nat → Int32 → Nat → Nat
  | 0, _, _, a => a
  | n + 1, i, f, a => @ite _ (okT Bf L nB nS i) (Classical.propDecidable _) (wt I ls Bf L nB nS t w n (i + 1) (if Bf (3 * i + 2) = 1 then 0 else f_min 95 (f + I 7 (bv Bf (3 * i)))) (a * (if Bf (3 * i + 2) = 1 then cyN I ls (f_min 95 (f + I 7 (bv Bf (3 * i)))) t w (bv Bf (3 * i)) (bv Bf (3 * i + 1)) else 12 - cyN I ls (f_min 95 (f + I 7 (bv Bf (3 * i)))) t w (bv Bf (3 * i)) (bv Bf (3 * i + 1))))) a
theorem wt_le {I : xI} {ls : lwT} {Bf : Nat → Int32} {L nB nS : Nat} {t w : Int32} : ∀ n i f a, wt I ls Bf L nB nS t w n i f a ≤ a * 12 ^ n
  | 0, _, _, a => by simp [wt]
  | n + 1, i, f, a => by
    by_cases q : okT Bf L nB nS i
    · simp only [wt]
      rw [if_pos q]
      refine Nat.le_trans (wt_le n _ _ _) ?_
      rw [Nat.pow_succ, Nat.mul_comm (12 ^ n) 12, ← Nat.mul_assoc]
      refine Nat.mul_le_mul_right _ (Nat.mul_le_mul_left _ ?_)
      have := cyN_le (I := I) (ls := ls) (f := f_min 95 (f + I 7 (bv Bf (3 * i)))) (t := t) (w := w) (b := bv Bf (3 * i)) (s := bv Bf (3 * i + 1))
      by_cases q2 : Bf (3 * i + 2) = 1
      · rw [if_pos q2]; exact this
      · rw [if_neg q2]; omega
    · simp only [wt]
      rw [if_neg q]
      exact Nat.le_mul_of_pos_right _ (Nat.pow_pos (by omega))
theorem wt_fr {I I' : xI} (h : Fq I I') {ls : lwT} {Bf : Nat → Int32} {L nB nS : Nat} {t w : Int32} : ∀ n i f a, wt I' ls Bf L nB nS t w n i f a = wt I ls Bf L nB nS t w n i f a
  | 0, _, _, _ => rfl
  | n + 1, i, f, a => by
    simp only [wt]
    rw [h.1 7 (by decide) (by decide), cyN_fr h, wt_fr h]
section
variable {I0 : xI} {J : xJ} {nB nS k L : Nat} {ls : lwT} {Bf : Nat → Int32}
theorem c_weight (h : Wd I0 nB nS ls) (hr : Rw I0 J k L Bf) (t w : Int32) (R : Nat) : ∀ (m i a : Nat) (f : Int32), i + m = 8 → a ≤ 12 ^ i → wt I0 ls Bf L nB nS t w m i f a = R → ∀ (I : xI) (a8 a9 a10 : Option Value), xFr [4, 5] I0 I → WP 12 (1000000, 0, 0) none M_X1_weight (fun r g i j => r = some (.long (lN R)) ∧ g = xG1 ∧ xFr [4, 5] I0 i ∧ j = J) 17 [some (.ref 32), some (.ref (45 + 2 * k)), some (.int t), some (.int w), some (.long (lN a)), none, some (.int f), some (.int (nI i)), a8, a9, a10] [] xG1 I J := by
  intro m
  induction m with
  | zero =>
    intro i a f hi ha hR I a8 a9 a10 hI
    obtain rfl : i = 8 := by omega
    simp only [wt] at hR
    subst hR
    refine iX1_weight_17 (iX1_weight_19 (iX1_weight_21 (fun h21 => ?_) (fun h21 => by first | exact absurd (Int32.le_refl _) h21 | exact absurd h21 (Int32.le_refl _))))
    refine iX1_weight_149 (iX1_weight_151 ?_)
    exact ⟨rfl, rfl, hI, rfl⟩
  | succ m ih =>
    intro i a f hi ha hR I a8 a9 a10 hI
    have fI := Fq.of hI (by decide)
    have wI := h.fr fI
    have rI := hr.fr fI Fj.rf
    obtain ⟨hB, hS⟩ := wI.le
    have hnB := h.2.1
    have hnS := h.2.2.2.1
    have hL := hr.2.2.2.2.1
    have hsx := xSh_at hr.1
    have e0 : (3 : Int32) * nI i = nI (3 * i) := pk_mul 3 i
    have e1 : nI (3 * i) + 1 = nI (3 * i + 1) := nI_1 _
    have e2 : nI (3 * i) + 2 = nI (3 * i + 2) := nI_add (3 * i) 2
    have ei : nI i + (1) = nI (i + 1) := nI_1 _
    have f21 : ¬ (8 : Int32) ≤ nI i := nI_ge (b := 8) (a := i) (by omega) (by omega)
    by_cases q : okT Bf L nB nS i
    · obtain ⟨q1, q2, q3, q4, q5, q6⟩ := q
      simp only [wt] at hR
      rw [if_pos ⟨q1, q2, q3, q4, q5, q6⟩] at hR
      have b0 : bN Bf L (3 * i) = nI (bv Bf (3 * i)) := by unfold bN; rw [if_pos (by omega)]; exact bv_nI q2
      have b1 : bN Bf L (3 * i + 1) = nI (bv Bf (3 * i + 1)) := by unfold bN; rw [if_pos (by omega)]; exact bv_nI q4
      have b2 : bN Bf L (3 * i + 2) = Bf (3 * i + 2) := by unfold bN; rw [if_pos (by omega)]
      generalize bv Bf (3 * i) = b at *
      generalize bv Bf (3 * i + 1) = s at *
      have hr0 : f_reading I (nI b) (nI s) = nI (10 * b + s) := by
        have z1 : f_has I (nI b) 0 = 1 := has_b wI q3 (w := 0) (by omega)
        have z2 : f_has I (nI s) 4 = 1 := has_s wI q5 (w := 4) (Or.inl rfl)
        unfold f_reading
        rw [z1, z2, if_neg (by decide), if_neg (by decide), bs_mk]
      have hcl := cyN_le (I := I0) (ls := ls) (f := f_min 95 (f + I0 7 b)) (t := t) (w := w) (b := b) (s := s)
      have e7 : I 7 b = I0 7 b := by rw [fI.1 7 (by decide) (by decide)]
      have n65 : ¬ nI (10 * b + s) < 0 := nI_pos (by omega)
      have n70 : ¬ Bf (3 * i + 2) < 0 := by rcases q6 with e | e <;> rw [e] <;> decide
      have n76 : Bf (3 * i + 2) ≤ 1 := by rcases q6 with e | e <;> rw [e] <;> decide
      have hcr := cyN_fr fI (ls := ls) (f := f_min 95 (f + I0 7 b)) (t := t) (w := w) (b := b) (s := s)
      generalize hC : cyN I0 ls (f_min 95 (f + I0 7 b)) t w b s = c at *
      have elc : (nI c).toInt64 = lN c := nI_l (by omega)
      have elm : (12 - nI c).toInt64 = lN (12 - c) := by rw [show (12 : Int32) - nI c = nI (12 - c) from pk_sub hcl]; exact nI_l (by omega)
      have hp : 12 ^ (i + 1) = 12 * 12 ^ i := by rw [Nat.pow_succ]; omega
      rcases q6 with e | e
      · rw [if_neg (by rw [e]; decide), if_neg (by rw [e]; decide)] at hR
        have hs : f_sinceB I (nI (10 * b + s)) f = f_min 95 (f + I0 7 b) := by
          unfold f_sinceB
          rw [bs_div (by omega) (by omega), show f_get I (nI b) 0 = I 7 b from get_b wI q3 (w := 0) (by omega), e7]
        refine iX1_weight_17 (iX1_weight_19 (iX1_weight_21 (fun h21 => absurd h21 (f21)) (fun h21 => ?_)))
        refine iX1_weight_24 (iX1_weight_25 (iX1_weight_28 (iX1_weight_29 (iX1_weight_30 (iX1_weight_32 ?_)))))
        rw [e0]
        refine iX1_weight_33 hsx.1 (s_byteN rI (by omega)) (iX1_weight_36 (iX1_weight_37 (iX1_weight_38 (iX1_weight_40 (iX1_weight_41 (iX1_weight_42 ?_))))))
        rw [e0, e1]
        refine iX1_weight_43 hsx.1 (s_byteN rI (by omega)) ?_
        rw [b0, b1]
        refine iX1_weight_46 (s_X5_reading _ _) ?_
        rw [hr0]
        refine iX1_weight_49 (iX1_weight_51 (iX1_weight_52 (iX1_weight_53 (iX1_weight_55 (iX1_weight_56 (iX1_weight_57 ?_))))))
        rw [e0, e2]
        refine iX1_weight_58 hsx.1 (s_byteN rI (by omega)) ?_
        rw [b2]
        refine iX1_weight_61 (iX1_weight_63 (iX1_weight_65 (fun h65 => absurd h65 (n65)) (fun h65 => ?_)))
        refine iX1_weight_68 (iX1_weight_70 (fun h70 => absurd h70 (n70)) (fun h70 => ?_))
        refine iX1_weight_73 (iX1_weight_75 (iX1_weight_76 (fun h76 => ?_) (fun h76 => by first | exact absurd (n76) h76 | exact absurd h76 (n76))))
        refine iX1_weight_82 (iX1_weight_83 (iX1_weight_86 (iX1_weight_88 (iX1_weight_89 (iX1_weight_90 (jX1_weight_92 (s_X5_crying wI q3 q5 _ _ _) (fun r92 g92 I92 J92 hq => ?_)))))))
        obtain ⟨rfl, rfl, hq3, rfl⟩ := hq
        rw [e7, hcr]
        have hI2 := hI.tr hq3
        have fI2 := Fq.of hI2 (by decide)
        have hs2 : f_sinceB I92 (nI (10 * b + s)) f = f_min 95 (f + I0 7 b) := by
          unfold f_sinceB
          rw [bs_div (by omega) (by omega), show f_get I92 (nI b) 0 = I92 7 b from get_b (h.fr fI2) q3 (w := 0) (by omega), fI2.1 7 (by decide) (by decide)]
        obtain ⟨hB2, hS2⟩ := (h.fr fI2).le
        refine iX1_weight_95 (iX1_weight_97 (iX1_weight_99 (iX1_weight_101 (iX1_weight_102 (fun h102 => ?_) (fun h102 => by first | exact absurd ((by rw [e]; decide)) h102 | exact absurd h102 ((by rw [e]; decide)))))))
        refine iX1_weight_111 (iX1_weight_113 (iX1_weight_115 (iX1_weight_116 ?_)))
        rw [elm]
        refine iX1_weight_117 ?_
        rw [lN_mul]
        refine iX1_weight_118 (iX1_weight_120 (iX1_weight_122 (iX1_weight_123 (fun h123 => ?_) (fun h123 => by first | exact absurd ((by rw [e]; decide)) h123 | exact absurd h123 ((by rw [e]; decide))))))
        refine iX1_weight_130 (iX1_weight_131 (iX1_weight_134 (iX1_weight_136 (iX1_weight_138 (s_X5_sinceBehind _ _ hB2 hS2) (iX1_weight_141 (iX1_weight_143 (iX1_weight_146 ?_)))))))
        rw [ei]
        try rw [hs2]
        exact ih (i + 1) _ _ (by omega) (by rw [hp, Nat.mul_comm]; exact Nat.mul_le_mul (by omega) ha) hR I92 _ _ _ hI2
      · rw [if_pos e, if_pos e] at hR
        refine iX1_weight_17 (iX1_weight_19 (iX1_weight_21 (fun h21 => absurd h21 (f21)) (fun h21 => ?_)))
        refine iX1_weight_24 (iX1_weight_25 (iX1_weight_28 (iX1_weight_29 (iX1_weight_30 (iX1_weight_32 ?_)))))
        rw [e0]
        refine iX1_weight_33 hsx.1 (s_byteN rI (by omega)) (iX1_weight_36 (iX1_weight_37 (iX1_weight_38 (iX1_weight_40 (iX1_weight_41 (iX1_weight_42 ?_))))))
        rw [e0, e1]
        refine iX1_weight_43 hsx.1 (s_byteN rI (by omega)) ?_
        rw [b0, b1]
        refine iX1_weight_46 (s_X5_reading _ _) ?_
        rw [hr0]
        refine iX1_weight_49 (iX1_weight_51 (iX1_weight_52 (iX1_weight_53 (iX1_weight_55 (iX1_weight_56 (iX1_weight_57 ?_))))))
        rw [e0, e2]
        refine iX1_weight_58 hsx.1 (s_byteN rI (by omega)) ?_
        rw [b2]
        refine iX1_weight_61 (iX1_weight_63 (iX1_weight_65 (fun h65 => absurd h65 (n65)) (fun h65 => ?_)))
        refine iX1_weight_68 (iX1_weight_70 (fun h70 => absurd h70 (n70)) (fun h70 => ?_))
        refine iX1_weight_73 (iX1_weight_75 (iX1_weight_76 (fun h76 => ?_) (fun h76 => by first | exact absurd (n76) h76 | exact absurd h76 (n76))))
        refine iX1_weight_82 (iX1_weight_83 (iX1_weight_86 (iX1_weight_88 (iX1_weight_89 (iX1_weight_90 (jX1_weight_92 (s_X5_crying wI q3 q5 _ _ _) (fun r92 g92 I92 J92 hq => ?_)))))))
        obtain ⟨rfl, rfl, hq3, rfl⟩ := hq
        rw [e7, hcr]
        have hI2 := hI.tr hq3
        refine iX1_weight_95 (iX1_weight_97 (iX1_weight_99 (iX1_weight_101 (iX1_weight_102 (fun h102 => absurd h102 ((fun z => z e))) (fun h102 => ?_)))))
        refine iX1_weight_105 (iX1_weight_107 (iX1_weight_108 ?_))
        rw [elc]
        refine iX1_weight_117 ?_
        rw [lN_mul]
        refine iX1_weight_118 (iX1_weight_120 (iX1_weight_122 (iX1_weight_123 (fun h123 => absurd h123 ((fun z => z e))) (fun h123 => ?_))))
        refine iX1_weight_126 (iX1_weight_127 (iX1_weight_141 (iX1_weight_143 (iX1_weight_146 ?_))))
        rw [ei]
        exact ih (i + 1) _ _ (by omega) (by rw [hp, Nat.mul_comm]; exact Nat.mul_le_mul (by omega) ha) hR I92 _ _ _ hI2
    · simp only [wt] at hR
      rw [if_neg q] at hR
      subst hR
      refine iX1_weight_17 (iX1_weight_19 (iX1_weight_21 (fun h21 => absurd h21 (f21)) (fun h21 => ?_)))
      refine iX1_weight_24 (iX1_weight_25 (iX1_weight_28 (iX1_weight_29 (iX1_weight_30 (iX1_weight_32 ?_)))))
      rw [e0]
      refine iX1_weight_33 hsx.1 (s_byteN rI (by omega)) (iX1_weight_36 (iX1_weight_37 (iX1_weight_38 (iX1_weight_40 (iX1_weight_41 (iX1_weight_42 ?_))))))
      rw [e0, e1]
      refine iX1_weight_43 hsx.1 (s_byteN rI (by omega)) (iX1_weight_46 (s_X5_reading _ _) (iX1_weight_49 (iX1_weight_51 (iX1_weight_52 (iX1_weight_53 (iX1_weight_55 (iX1_weight_56 (iX1_weight_57 ?_))))))))
      rw [e0, e2]
      refine iX1_weight_58 hsx.1 (s_byteN rI (by omega)) (iX1_weight_61 (iX1_weight_63 (iX1_weight_65 (fun h65 => ?_) (fun h65 => ?_))))
      · refine iX1_weight_149 (iX1_weight_151 ?_)
        exact ⟨rfl, rfl, hI, rfl⟩
      · refine iX1_weight_68 (iX1_weight_70 (fun h70 => ?_) (fun h70 => ?_))
        · refine iX1_weight_149 (iX1_weight_151 ?_)
          exact ⟨rfl, rfl, hI, rfl⟩
        · refine iX1_weight_73 (iX1_weight_75 (iX1_weight_76 (fun h76 => ?_) (fun h76 => ?_)))
          · exfalso
            apply q
            have x2 : 3 * i + 2 < L := by
              by_cases z : 3 * i + 2 < L
              · exact z
              · exfalso
                apply h70
                unfold bN
                rw [if_neg z]
                decide
            have y0 : bN Bf L (3 * i) = Bf (3 * i) := by unfold bN; rw [if_pos (by omega)]
            have y1 : bN Bf L (3 * i + 1) = Bf (3 * i + 1) := by unfold bN; rw [if_pos (by omega)]
            have y2 : bN Bf L (3 * i + 2) = Bf (3 * i + 2) := by unfold bN; rw [if_pos (by omega)]
            rw [y0, y1] at h65
            rw [y2] at h70 h76
            have z0 : ¬ f_has I (Bf (3 * i)) 0 = 0 := fun z => h65 (by unfold f_reading; rw [if_pos z]; decide)
            have z1 : ¬ f_has I (Bf (3 * i + 1)) 4 = 0 := fun z => h65 (by unfold f_reading; rw [if_neg z0, if_pos z]; decide)
            have p0 : ¬ Bf (3 * i) < 0 := by unfold f_has at z0; grind
            have p1 : ¬ Bf (3 * i + 1) < 0 := by unfold f_has at z1; grind
            refine ⟨x2, p0, ?_, p1, ?_, by grind⟩
            · refine hasB_lt wI (bv_31 p0) ?_
              rw [← bv_nI p0]; exact z0
            · refine hasS_lt wI (bv_31 p1) ?_
              rw [← bv_nI p1]; exact z1
          · refine iX1_weight_79 (iX1_weight_149 (iX1_weight_151 ?_))
            exact ⟨rfl, rfl, hI, rfl⟩
theorem s_X1_weight (h : Wd I0 nB nS ls) (hr : Rw I0 J k L Bf) (t w : Int32) : Spec 12 (1000000, 0, 0) M_X1_weight [.ref 32, .ref (45 + 2 * k), .int t, .int w] xG1 I0 J (fun r g i j => r = some (.long (lN (wt I0 ls Bf L nB nS t w 8 0 (I0 15 0) 1))) ∧ g = xG1 ∧ xFr [4, 5] I0 i ∧ j = J) := by
  obtain ⟨hB, hS⟩ := h.le
  have e8 : f_get I0 0 8 = I0 15 0 := f_get_its 8 (by omega) (by omega)
  refine spec_of (L := [some (.ref 32), some (.ref (45 + 2 * k)), some (.int t), some (.int w), none, none, none, none, none, none, none]) (by decide) (Nat.le_of_ble_eq_true rfl) rfl ?_
  refine iX1_weight_0 (iX1_weight_1 (iX1_weight_3 (iX1_weight_4 (iX1_weight_7 (iX1_weight_9 (s_X5_its 8 hB hS) ?_)))))
  rw [e8]
  refine iX1_weight_12 (iX1_weight_14 (iX1_weight_15 ?_))
  exact c_weight h hr t w _ 8 0 1 _ (by omega) (by omega) rfl I0 _ _ _ xFr.rf
/-! the reference's -/
theorem s_X12_isThree (h : Wd I0 nB nS ls) (hr : Rw I0 J k L Bf) {i : Nat} (hi : i < 8) : (okT Bf L nB nS i → SpecF 3 M_X12_isThree [.ref 57, .int (nI k), .int (nI i)] xG1 I0 J (some (.int 1)) I0 J) ∧ (¬ okT Bf L nB nS i → SpecF 3 M_X12_isThree [.ref 57, .int (nI k), .int (nI i)] xG1 I0 J (some (.int 0)) I0 J) := by
  have hk := hr.1
  have hL := hr.2.2.2.2.1
  have e0 : (3 : Int32) * nI i = nI (3 * i) := pk_mul 3 i
  have e1 : nI (3 * i) + 1 = nI (3 * i + 1) := nI_1 _
  have e2 : nI (3 * i) + 2 = nI (3 * i + 2) := nI_add (3 * i) 2
  have ek : I0 88 (nI k).toNatClampNeg = nI L := by rw [nI_clamp (by omega)]; exact hr.2.2.2.2.2.2.1
  refine ⟨fun q => ?_, fun q => ?_⟩
  · obtain ⟨q1, q2, q3, q4, q5, q6⟩ := q
    have z0 : ¬ f_has I0 (Bf (3 * i)) 0 = 0 := by
      rw [bv_nI q2, show f_has I0 (nI (bv Bf (3 * i))) 0 = 1 from has_b h q3 (w := 0) (by omega)]; decide
    have z1 : ¬ f_has I0 (Bf (3 * i + 1)) 4 = 0 := by
      rw [bv_nI q4, show f_has I0 (nI (bv Bf (3 * i + 1))) 4 = 1 from has_s h q5 (w := 4) (Or.inl rfl)]; decide
    have z2 : ¬ f_in (Bf (3 * i + 2)) 0 1 = 0 := by rcases q6 with e | e <;> rw [e] <;> decide
    refine specF_of (L := [some (.ref 57), some (.int (nI k)), some (.int (nI i))]) (by decide) (Nat.le_of_ble_eq_true rfl) rfl ?_
    refine iX12_isThree_0 (iX12_isThree_1 (iX12_isThree_2 (iX12_isThree_3 (iX12_isThree_4 (iX12_isThree_5 (iX12_isThree_6 (iX12_isThree_9 (iX12_isThree_10 (vp_in_nI (by omega) (by omega)) ?_))))))))
    rw [e0, e2, ek]
    refine iX12_isThree_11 (fun h11 => absurd h11 (nI_ge q1 (by omega))) (fun h11 => ?_)
    refine iX12_isThree_14 (iX12_isThree_15 (iX12_isThree_16 (iX12_isThree_17 (iX12_isThree_18 (iX12_isThree_19 ?_)))))
    rw [e0]
    refine iX12_isThree_20 (s_atN hr (by omega)) (iX12_isThree_23 (s_X12_isBill _) ?_)
    rw [hb_in h]
    refine iX12_isThree_26 (fun h26 => absurd h26 (z0)) (fun h26 => ?_)
    refine iX12_isThree_29 (iX12_isThree_30 (iX12_isThree_31 (iX12_isThree_32 (iX12_isThree_33 (iX12_isThree_34 (iX12_isThree_35 (iX12_isThree_36 ?_)))))))
    rw [e0, e1]
    refine iX12_isThree_37 (s_atN hr (by omega)) (iX12_isThree_40 (s_X12_isSenator _) ?_)
    rw [hs_in h]
    refine iX12_isThree_43 (fun h43 => absurd h43 (z1)) (fun h43 => ?_)
    refine iX12_isThree_46 (iX12_isThree_47 (iX12_isThree_48 (iX12_isThree_49 (iX12_isThree_50 (iX12_isThree_51 (iX12_isThree_52 ?_))))))
    rw [e0, e2]
    refine iX12_isThree_53 (s_atN hr (by omega)) (iX12_isThree_56 (iX12_isThree_57 (iX12_isThree_58 (s_X12_in _ _ _) (iX12_isThree_61 (fun h61 => absurd h61 (z2)) (fun h61 => ?_)))))
    refine iX12_isThree_64 (iX12_isThree_65 (iX12_isThree_69 ?_))
    exact ⟨rfl, rfl, rfl, rfl⟩
  · refine specF_of (L := [some (.ref 57), some (.int (nI k)), some (.int (nI i))]) (by decide) (Nat.le_of_ble_eq_true rfl) rfl ?_
    by_cases q1 : 3 * i + 2 < L
    · refine iX12_isThree_0 (iX12_isThree_1 (iX12_isThree_2 (iX12_isThree_3 (iX12_isThree_4 (iX12_isThree_5 (iX12_isThree_6 (iX12_isThree_9 (iX12_isThree_10 (vp_in_nI (by omega) (by omega)) ?_))))))))
      rw [e0, e2, ek]
      refine iX12_isThree_11 (fun h11 => absurd h11 (nI_ge q1 (by omega))) (fun h11 => ?_)
      refine iX12_isThree_14 (iX12_isThree_15 (iX12_isThree_16 (iX12_isThree_17 (iX12_isThree_18 (iX12_isThree_19 ?_)))))
      rw [e0]
      refine iX12_isThree_20 (s_atN hr (by omega)) (iX12_isThree_23 (s_X12_isBill _) ?_)
      rw [hb_in h]
      refine iX12_isThree_26 (fun h26 => ?_) (fun h26 => ?_)
      · refine iX12_isThree_68 (iX12_isThree_69 ?_)
        exact ⟨rfl, rfl, rfl, rfl⟩
      · refine iX12_isThree_29 (iX12_isThree_30 (iX12_isThree_31 (iX12_isThree_32 (iX12_isThree_33 (iX12_isThree_34 (iX12_isThree_35 (iX12_isThree_36 ?_)))))))
        rw [e0, e1]
        refine iX12_isThree_37 (s_atN hr (by omega)) (iX12_isThree_40 (s_X12_isSenator _) ?_)
        rw [hs_in h]
        refine iX12_isThree_43 (fun h43 => ?_) (fun h43 => ?_)
        · refine iX12_isThree_68 (iX12_isThree_69 ?_)
          exact ⟨rfl, rfl, rfl, rfl⟩
        · refine iX12_isThree_46 (iX12_isThree_47 (iX12_isThree_48 (iX12_isThree_49 (iX12_isThree_50 (iX12_isThree_51 (iX12_isThree_52 ?_))))))
          rw [e0, e2]
          refine iX12_isThree_53 (s_atN hr (by omega)) (iX12_isThree_56 (iX12_isThree_57 (iX12_isThree_58 (s_X12_in _ _ _) (iX12_isThree_61 (fun h61 => ?_) (fun h61 => ?_)))))
          · refine iX12_isThree_68 (iX12_isThree_69 ?_)
            exact ⟨rfl, rfl, rfl, rfl⟩
          · exfalso
            apply q
            have p0 : ¬ Bf (3 * i) < 0 := by unfold f_has at h26; grind
            have p1 : ¬ Bf (3 * i + 1) < 0 := by unfold f_has at h43; grind
            have p2 := f_in_p h61
            refine ⟨q1, p0, ?_, p1, ?_, by grind⟩
            · refine hasB_lt h (bv_31 p0) ?_
              rw [← bv_nI p0]; exact h26
            · refine hasS_lt h (bv_31 p1) ?_
              rw [← bv_nI p1]; exact h43
    · refine iX12_isThree_0 (iX12_isThree_1 (iX12_isThree_2 (iX12_isThree_3 (iX12_isThree_4 (iX12_isThree_5 (iX12_isThree_6 (iX12_isThree_9 (iX12_isThree_10 (vp_in_nI (by omega) (by omega)) ?_))))))))
      rw [e0, e2, ek]
      refine iX12_isThree_11 (fun h11 => ?_) (fun h11 => by first | exact absurd (nI_le (by omega) (by omega)) h11 | exact absurd h11 (nI_le (by omega) (by omega)))
      refine iX12_isThree_68 (iX12_isThree_69 ?_)
      exact ⟨rfl, rfl, rfl, rfl⟩
theorem m_weight (h : Wd I0 nB nS ls) (hr : Rw I0 J k L Bf) (t w : Int32) (R : Nat) : ∀ (m i a : Nat) (f : Int32), i + m = 8 → a ≤ 12 ^ i → wt I0 ls Bf L nB nS t w m i f a = R → ∀ (I : xI) (a8 a9 a10 : Option Value), xFr [75, 76] I0 I → WP 12 (1000000, 0, 0) none M_X12_chanceBy (fun r g i j => r = some (.long (lN R)) ∧ g = xG1 ∧ xFr [75, 76] I0 i ∧ j = J) 14 [some (.ref 57), some (.int (nI k)), some (.int t), some (.int w), some (.long (lN a)), none, some (.int f), some (.int (nI i)), a8, a9, a10] [] xG1 I J := by
  intro m
  induction m with
  | zero =>
    intro i a f hi ha hR I a8 a9 a10 hI
    obtain rfl : i = 8 := by omega
    simp only [wt] at hR
    subst hR
    refine iX12_chanceBy_14 (iX12_chanceBy_16 (iX12_chanceBy_18 (fun h18 => ?_) (fun h18 => by first | exact absurd (Int32.le_refl _) h18 | exact absurd h18 (Int32.le_refl _))))
    refine iX12_chanceBy_133 (iX12_chanceBy_135 ?_)
    exact ⟨rfl, rfl, hI, rfl⟩
  | succ m ih =>
    intro i a f hi ha hR I a8 a9 a10 hI
    have fI := Fq.of hI (by decide)
    have wI := h.fr fI
    have rI := hr.fr fI Fj.rf
    have hnB := h.2.1
    have hnS := h.2.2.2.1
    have hL := hr.2.2.2.2.1
    have e0 : (3 : Int32) * nI i = nI (3 * i) := pk_mul 3 i
    have e1 : nI (3 * i) + 1 = nI (3 * i + 1) := nI_1 _
    have e2 : nI (3 * i) + 2 = nI (3 * i + 2) := nI_add (3 * i) 2
    have ei : nI i + (1) = nI (i + 1) := nI_1 _
    have f21 : ¬ (8 : Int32) ≤ nI i := nI_ge (b := 8) (a := i) (by omega) (by omega)
    have sT := s_X12_isThree wI rI (i := i) (by omega)
    by_cases q : okT Bf L nB nS i
    · have sT := sT.1 q
      obtain ⟨q1, q2, q3, q4, q5, q6⟩ := q
      simp only [wt] at hR
      rw [if_pos ⟨q1, q2, q3, q4, q5, q6⟩] at hR
      have b0 : Bf (3 * i) = nI (bv Bf (3 * i)) := bv_nI q2
      have b1 : Bf (3 * i + 1) = nI (bv Bf (3 * i + 1)) := bv_nI q4
      generalize bv Bf (3 * i) = b at *
      generalize bv Bf (3 * i + 1) = s at *
      have hcl := cyN_le (I := I0) (ls := ls) (f := f_min 95 (f + I0 7 b)) (t := t) (w := w) (b := b) (s := s)
      have e7 : I 7 b = I0 7 b := by rw [fI.1 7 (by decide) (by decide)]
      have hcr := cyN_fr fI (ls := ls) (f := f_min 95 (f + I0 7 b)) (t := t) (w := w) (b := b) (s := s)
      generalize hC : cyN I0 ls (f_min 95 (f + I0 7 b)) t w b s = c at *
      have elc : (nI c).toInt64 = lN c := nI_l (by omega)
      have elm : (12 - nI c).toInt64 = lN (12 - c) := by rw [show (12 : Int32) - nI c = nI (12 - c) from pk_sub hcl]; exact nI_l (by omega)
      have hp : 12 ^ (i + 1) = 12 * 12 ^ i := by rw [Nat.pow_succ]; omega
      rcases q6 with e | e
      · rw [if_neg (by rw [e]; decide), if_neg (by rw [e]; decide)] at hR
        refine iX12_chanceBy_14 (iX12_chanceBy_16 (iX12_chanceBy_18 (fun h18 => absurd h18 (f21)) (fun h18 => ?_)))
        refine iX12_chanceBy_21 (iX12_chanceBy_22 (iX12_chanceBy_23 (iX12_chanceBy_25 sT (iX12_chanceBy_28 (fun h28 => absurd h28 ((by decide))) (fun h28 => ?_)))))
        refine iX12_chanceBy_31 (iX12_chanceBy_32 (iX12_chanceBy_33 (iX12_chanceBy_34 (iX12_chanceBy_36 ?_))))
        rw [e0]
        refine iX12_chanceBy_37 (s_atN rI (by omega)) ?_
        rw [b0]
        refine iX12_chanceBy_40 (iX12_chanceBy_42 (iX12_chanceBy_43 (iX12_chanceBy_45 (iX12_chanceBy_47 (s_X12_sinceWith wI q3 _) ?_))))
        rw [e7]
        refine iX12_chanceBy_50 (iX12_chanceBy_52 (iX12_chanceBy_53 (iX12_chanceBy_55 (iX12_chanceBy_56 (iX12_chanceBy_57 (iX12_chanceBy_59 (iX12_chanceBy_60 (iX12_chanceBy_61 (iX12_chanceBy_62 (iX12_chanceBy_64 (iX12_chanceBy_65 (iX12_chanceBy_66 ?_))))))))))))
        rw [e0, e1]
        refine iX12_chanceBy_67 (s_atN rI (by omega)) ?_
        rw [b1]
        refine jX12_chanceBy_70 (s_X12_criesBy wI q3 q5 _ _ _) (fun r70 g70 I70 J70 hq => ?_)
        obtain ⟨rfl, rfl, hq3, rfl⟩ := hq
        rw [hcr]
        have hI2 := hI.tr hq3
        have rI2 := hr.fr (Fq.of hI2 (by decide)) Fj.rf
        refine iX12_chanceBy_73 (iX12_chanceBy_75 (iX12_chanceBy_76 (iX12_chanceBy_77 (iX12_chanceBy_78 (iX12_chanceBy_80 (iX12_chanceBy_81 (iX12_chanceBy_82 ?_)))))))
        rw [e0, e2]
        refine iX12_chanceBy_83 (s_atN rI2 (by omega)) (iX12_chanceBy_86 (iX12_chanceBy_87 (fun h87 => ?_) (fun h87 => by first | exact absurd ((by rw [e]; decide)) h87 | exact absurd h87 ((by rw [e]; decide)))))
        refine iX12_chanceBy_94 (iX12_chanceBy_95 (iX12_chanceBy_97 (iX12_chanceBy_99 (iX12_chanceBy_101 (fun h101 => ?_) (fun h101 => by first | exact absurd (rfl) h101 | exact absurd h101 (rfl))))))
        refine iX12_chanceBy_110 (iX12_chanceBy_112 (iX12_chanceBy_114 (iX12_chanceBy_115 ?_)))
        rw [elm]
        refine iX12_chanceBy_116 ?_
        rw [lN_mul]
        refine iX12_chanceBy_117 (iX12_chanceBy_119 (iX12_chanceBy_121 (fun h121 => ?_) (fun h121 => by first | exact absurd (rfl) h121 | exact absurd h121 (rfl))))
        refine iX12_chanceBy_127 (iX12_chanceBy_130 ?_)
        rw [ei]
        exact ih (i + 1) _ _ (by omega) (by rw [hp, Nat.mul_comm]; exact Nat.mul_le_mul (by omega) ha) hR I70 _ _ _ hI2
      · rw [if_pos e, if_pos e] at hR
        refine iX12_chanceBy_14 (iX12_chanceBy_16 (iX12_chanceBy_18 (fun h18 => absurd h18 (f21)) (fun h18 => ?_)))
        refine iX12_chanceBy_21 (iX12_chanceBy_22 (iX12_chanceBy_23 (iX12_chanceBy_25 sT (iX12_chanceBy_28 (fun h28 => absurd h28 ((by decide))) (fun h28 => ?_)))))
        refine iX12_chanceBy_31 (iX12_chanceBy_32 (iX12_chanceBy_33 (iX12_chanceBy_34 (iX12_chanceBy_36 ?_))))
        rw [e0]
        refine iX12_chanceBy_37 (s_atN rI (by omega)) ?_
        rw [b0]
        refine iX12_chanceBy_40 (iX12_chanceBy_42 (iX12_chanceBy_43 (iX12_chanceBy_45 (iX12_chanceBy_47 (s_X12_sinceWith wI q3 _) ?_))))
        rw [e7]
        refine iX12_chanceBy_50 (iX12_chanceBy_52 (iX12_chanceBy_53 (iX12_chanceBy_55 (iX12_chanceBy_56 (iX12_chanceBy_57 (iX12_chanceBy_59 (iX12_chanceBy_60 (iX12_chanceBy_61 (iX12_chanceBy_62 (iX12_chanceBy_64 (iX12_chanceBy_65 (iX12_chanceBy_66 ?_))))))))))))
        rw [e0, e1]
        refine iX12_chanceBy_67 (s_atN rI (by omega)) ?_
        rw [b1]
        refine jX12_chanceBy_70 (s_X12_criesBy wI q3 q5 _ _ _) (fun r70 g70 I70 J70 hq => ?_)
        obtain ⟨rfl, rfl, hq3, rfl⟩ := hq
        rw [hcr]
        have hI2 := hI.tr hq3
        have rI2 := hr.fr (Fq.of hI2 (by decide)) Fj.rf
        refine iX12_chanceBy_73 (iX12_chanceBy_75 (iX12_chanceBy_76 (iX12_chanceBy_77 (iX12_chanceBy_78 (iX12_chanceBy_80 (iX12_chanceBy_81 (iX12_chanceBy_82 ?_)))))))
        rw [e0, e2]
        refine iX12_chanceBy_83 (s_atN rI2 (by omega)) (iX12_chanceBy_86 (iX12_chanceBy_87 (fun h87 => absurd h87 ((fun z => z e))) (fun h87 => ?_)))
        refine iX12_chanceBy_90 (iX12_chanceBy_91 (iX12_chanceBy_95 (iX12_chanceBy_97 (iX12_chanceBy_99 (iX12_chanceBy_101 (fun h101 => absurd h101 ((by decide))) (fun h101 => ?_))))))
        refine iX12_chanceBy_104 (iX12_chanceBy_106 (iX12_chanceBy_107 ?_))
        rw [elc]
        refine iX12_chanceBy_116 ?_
        rw [lN_mul]
        refine iX12_chanceBy_117 (iX12_chanceBy_119 (iX12_chanceBy_121 (fun h121 => absurd h121 ((by decide))) (fun h121 => ?_)))
        refine iX12_chanceBy_124 (iX12_chanceBy_125 (iX12_chanceBy_127 (iX12_chanceBy_130 ?_)))
        rw [ei]
        exact ih (i + 1) _ _ (by omega) (by rw [hp, Nat.mul_comm]; exact Nat.mul_le_mul (by omega) ha) hR I70 _ _ _ hI2
    · have sT := sT.2 q
      simp only [wt] at hR
      rw [if_neg q] at hR
      subst hR
      refine iX12_chanceBy_14 (iX12_chanceBy_16 (iX12_chanceBy_18 (fun h18 => absurd h18 (f21)) (fun h18 => ?_)))
      refine iX12_chanceBy_21 (iX12_chanceBy_22 (iX12_chanceBy_23 (iX12_chanceBy_25 sT (iX12_chanceBy_28 (fun h28 => ?_) (fun h28 => by first | exact absurd (rfl) h28 | exact absurd h28 (rfl))))))
      refine iX12_chanceBy_133 (iX12_chanceBy_135 ?_)
      exact ⟨rfl, rfl, hI, rfl⟩
theorem s_X12_chanceBy (h : Wd I0 nB nS ls) (hr : Rw I0 J k L Bf) (t w : Int32) : Spec 12 (1000000, 0, 0) M_X12_chanceBy [.ref 57, .int (nI k), .int t, .int w] xG1 I0 J (fun r g i j => r = some (.long (lN (wt I0 ls Bf L nB nS t w 8 0 (I0 15 0) 1))) ∧ g = xG1 ∧ xFr [75, 76] I0 i ∧ j = J) := by
  obtain ⟨i0, i1, i2, -⟩ := h.2.2.2.2.2.2.2.2.1
  refine spec_of (L := [some (.ref 57), some (.int (nI k)), some (.int t), some (.int w), none, none, none, none, none, none, none]) (by decide) (Nat.le_of_ble_eq_true rfl) rfl ?_
  refine iX12_chanceBy_0 (iX12_chanceBy_1 (iX12_chanceBy_3 (iX12_chanceBy_4 (iX12_chanceBy_7 (iX12_chanceBy_8 (vin 4 (by decide) (by decide) (by decide)) ?_)))))
  rw [show I0 64 (2 : Int32).toNatClampNeg = I0 15 0 from i2]
  refine iX12_chanceBy_9 (iX12_chanceBy_11 (iX12_chanceBy_12 ?_))
  exact m_weight h hr t w _ 8 0 1 _ (by omega) (by omega) rfl I0 _ _ _ xFr.rf
end
