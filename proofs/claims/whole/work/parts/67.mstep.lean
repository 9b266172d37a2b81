/-! ===== the reference's weights ===== -/
section
variable {I0 : xI} {J0 : xJ} {nB nS : Nat} {ls : lwT}
def MW (r : Nat → Int64) (W : Nat → Nat) : Prop := ∀ s : Nat, s < 96 → r s = lN (W s)
theorem m_zero {Q : xP} {bs qu : Int32} {I : xI} (kk : ∀ (J : xJ), xFJ [79] J0 J → (∀ t : Nat, t < 96 → J 79 t = 0) → WP 15 (1000000, 0, 0) none M_X12_goReading Q 21 [some (.ref 57), some (.int bs), some (.int qu), some (.int 96), none, none, none] [] xG1 I J) : ∀ (m s : Nat), s + m = 96 → ∀ (J : xJ), xFJ [79] J0 J → (∀ t : Nat, t < s → J 79 t = 0) → WP 15 (1000000, 0, 0) none M_X12_goReading Q 2 [some (.ref 57), some (.int bs), some (.int qu), some (.int (nI s)), none, none, none] [] xG1 I J := by
  intro m
  induction m with
  | zero =>
    intro s hs J hJ hz
    obtain rfl : s = 96 := by omega
    refine iX12_goReading_2 (iX12_goReading_3 (iX12_goReading_5 (fun h5 => ?_) (fun h5 => by first | exact absurd ((by decide : (95 : Int32) < nI 96)) h5 | exact absurd h5 ((by decide : (95 : Int32) < nI 96)))))
    exact kk J hJ hz
  | succ m ih =>
    intro s hs J hJ hz
    have ei : nI s + (1) = nI (s + 1) := nI_1 _
    refine iX12_goReading_2 (iX12_goReading_3 (iX12_goReading_5 (fun h5 => absurd h5 (nI_nlt (b := s) (a := 95) (by omega) (by omega))) (fun h5 => ?_)))
    refine iX12_goReading_8 (iX12_goReading_9 (iX12_goReading_12 (iX12_goReading_13 (iX12_goReading_14 (vp_in_nI (by omega) (by omega)) (iX12_goReading_15 (iX12_goReading_18 ?_))))))
    rw [ei, nI_clamp (by omega)]
    refine ih (s + 1) (by omega) _ (hJ.up (by decide)) (fun t ht => ?_)
    by_cases q : t = s
    · subst q; exact xu_eq
    · rw [xu_col q]; exact hz t (by omega)
theorem m_copy {Q : xP} {bs qu : Int32} {I : xI} {W2 : Nat → Nat} {a4 a5 a6 : Option Value} (hW : ∀ t : Nat, t < 96 → J0 79 t = lN (W2 t)) (kk : ∀ (J : xJ), xFJ [78] J0 J → MW (J 78) W2 → WP 15 (1000000, 0, 0) none M_X12_goReading Q 187 [some (.ref 57), some (.int bs), some (.int qu), some (.int 96), a4, a5, a6] [] xG1 I J) : ∀ (m s : Nat), s + m = 96 → ∀ (J : xJ), xFJ [78] J0 J → (∀ t : Nat, t < s → J 78 t = lN (W2 t)) → WP 15 (1000000, 0, 0) none M_X12_goReading Q 163 [some (.ref 57), some (.int bs), some (.int qu), some (.int (nI s)), a4, a5, a6] [] xG1 I J := by
  intro m
  induction m with
  | zero =>
    intro s hs J hJ hz
    obtain rfl : s = 96 := by omega
    refine iX12_goReading_163 (iX12_goReading_164 (iX12_goReading_166 (fun h166 => ?_) (fun h166 => by first | exact absurd ((by decide : (95 : Int32) < nI 96)) h166 | exact absurd h166 ((by decide : (95 : Int32) < nI 96)))))
    exact kk J hJ hz
  | succ m ih =>
    intro s hs J hJ hz
    have ei : nI s + (1) = nI (s + 1) := nI_1 _
    refine iX12_goReading_163 (iX12_goReading_164 (iX12_goReading_166 (fun h166 => absurd h166 (nI_nlt (b := s) (a := 95) (by omega) (by omega))) (fun h166 => ?_)))
    refine iX12_goReading_169 (iX12_goReading_170 (iX12_goReading_173 (iX12_goReading_174 (iX12_goReading_175 (iX12_goReading_178 (iX12_goReading_179 (vp_in_nI (by omega) (by omega)) (iX12_goReading_180 (vp_in_nI (by omega) (by omega)) (iX12_goReading_181 (iX12_goReading_184 ?_)))))))))
    rw [ei, nI_clamp (by omega), hJ 79 (by decide), hW s (by omega)]
    refine ih (s + 1) (by omega) _ (hJ.up (by decide)) (fun t ht => ?_)
    by_cases q : t = s
    · subst q; exact xu_eq
    · rw [xu_col q]; exact hz t (by omega)
theorem m_spread {Q : xP} (h : Wd I0 nB nS ls) {x : Nat × Nat} (hb : x.1 < nB) (hs : x.2 < nS) {cl : List (Nat × Nat)} (ht : lsum cl (fun _ => 1) ≤ 12 ^ 9) (go : Bool) (hW0 : MW (J0 78) (wsum cl)) (kk : ∀ (I : xI) (J : xJ) (a4 a5 a6 : Option Value), xFr [75, 76] I0 I → xFJ [57, 79] J0 J → (∀ k, k ≠ 35 → J 57 k = J0 57 k) → (∀ t : Nat, t < 96 → J 79 t = lN (gsum (wsum cl) (Ft (crx I0 ls x) (thx I0 x) go t) 96)) → J 57 35 = lN (gsum (wsum cl) (fun s => 12 - crx I0 ls x s) 96) → WP 15 (1000000, 0, 0) none M_X12_goReading Q 161 [some (.ref 57), some (.int (nI (10 * x.1 + x.2))), some (.int (bI (!go))), some (.int 96), a4, a5, a6] [] xG1 I J) : ∀ (m s : Nat), s + m = 96 → ∀ (I : xI) (J : xJ) (a4 a5 a6 : Option Value), xn2 a4 → xFr [75, 76] I0 I → xFJ [57, 79] J0 J → (∀ k, k ≠ 35 → J 57 k = J0 57 k) → (∀ t : Nat, t < 96 → J 79 t = lN (gsum (wsum cl) (Ft (crx I0 ls x) (thx I0 x) go t) s)) → J 57 35 = lN (gsum (wsum cl) (fun s => 12 - crx I0 ls x s) s) → WP 15 (1000000, 0, 0) none M_X12_goReading Q 28 [some (.ref 57), some (.int (nI (10 * x.1 + x.2))), some (.int (bI (!go))), some (.int (nI s)), a4, a5, a6] [] xG1 I J := by
  have hb10 : x.1 < 10 := by have := h.2.1; omega
  have hs10 : x.2 < 10 := by have := h.2.2.2.1; omega
  have hbl := h.2.2.2.2.2.2.1
  have eb := bs_div hb10 hs10
  have es := bs_rem hb10 hs10
  intro m
  induction m with
  | zero =>
    intro s hs I J a4 a5 a6 h4 hI hJ h57 h79 h35
    obtain rfl : s = 96 := by omega
    refine iX12_goReading_28 (iX12_goReading_29 (iX12_goReading_31 (fun h31 => ?_) (fun h31 => by first | exact absurd ((by decide : (95 : Int32) < nI 96)) h31 | exact absurd h31 ((by decide : (95 : Int32) < nI 96)))))
    exact kk I J _ _ _ hI hJ h57 h79 h35
  | succ m ih =>
    intro s hsm I J a4 a5 a6 h4 hI hJ h57 h79 h35
    have ei : nI s + (1) = nI (s + 1) := nI_1 _
    have f31 : ¬ (95 : Int32) < nI s := nI_nlt (b := s) (a := 95) (by omega) (by omega)
    have fI := Fq.of hI (by decide)
    have wI := h.fr fI
    have eW : J 78 (nI s).toNatClampNeg = lN (wsum cl s) := by rw [nI_clamp (by omega), hJ 78 (by decide)]; exact hW0 s (by omega)
    have lW := wsum_bd cl s
    have ih := ih (s + 1) (by omega)
    simp only [gsum] at ih
    by_cases q : wsum cl s = 0
    · simp only [q, Nat.zero_mul, Nat.add_zero] at ih
      refine iX12_goReading_28 (iX12_goReading_29 (iX12_goReading_31 (fun h31 => absurd h31 (f31)) (fun h31 => ?_)))
      refine iX12_goReading_34 (iX12_goReading_35 (iX12_goReading_38 (iX12_goReading_39 (vp_in_nI (by omega) (by omega)) ?_)))
      rw [eW, q]
      refine iX12_goReading_40 (iX12_goReading_41 (iX12_goReading_42 (fun h42 => absurd h42 ((by decide : ¬ ¬ lg_cmp (lN 0) 0 = 0))) (fun h42 => ?_)))
      refine iX12_goReading_45 (iX12_goReading_155 (iX12_goReading_158 ?_))
      rw [ei]
      exact ih I J _ _ _ h4 hI hJ h57 h79 h35
    · have n42 : ¬ lg_cmp (lN (wsum cl s)) 0 = 0 := by rw [lgc_0, lN_0 (by omega)]; exact q
      obtain ⟨i0, i1, i2, -⟩ := wI.2.2.2.2.2.2.2.2.1
      have j0 : I 64 (0 : Int32).toNatClampNeg = I0 13 0 := i0.trans (by rw [fI.1 13 (by decide) (by decide)])
      have j1 : I 64 (1 : Int32).toNatClampNeg = I0 14 0 := i1.trans (by rw [fI.1 14 (by decide) (by decide)])
      have sp := s_X12_criesBy (J := J) wI hb hs (nI (thx I0 x s)) (I0 13 0) (I0 14 0)
      rw [show cyN I ls (nI (thx I0 x s)) (I0 13 0) (I0 14 0) x.1 x.2 = crx I0 ls x s from cyN_fr fI] at sp
      have hcr := crx_le (I := I0) (ls := ls) (x := x) s
      have hth := thx_le (I := I0) (x := x) s
      have eF : ∀ t, Ft (crx I0 ls x) (thx I0 x) go t s = (if thx I0 x s = t then 12 - crx I0 ls x s else 0) + (if t = 0 ∧ go = true then crx I0 ls x s else 0) := fun t => rfl
      generalize hc : crx I0 ls x s = c at *
      generalize hT : thx I0 x s = T at *
      generalize wsum cl s = w at *
      have elc : (nI c).toInt64 = lN c := nI_l (by omega)
      have elm : (12 : Int64) - lN c = lN (12 - c) := lN_sub (a := 12) hcr
      have key : ∀ I1, xFr [75, 76] I0 I1 → ∀ J1, xFJ [57, 79] J0 J1 → (∀ k, k ≠ 35 → J1 57 k = J0 57 k) → (∀ t : Nat, t < 96 → J1 79 t = lN (gsum (wsum cl) (Ft (crx I0 ls x) (thx I0 x) go t) s + w * (if T = t then 12 - c else 0))) → J1 57 35 = lN (gsum (wsum cl) (fun s => 12 - crx I0 ls x s) s + w * (12 - c)) → J1 78 = J 78 → WP 15 (1000000, 0, 0) none M_X12_goReading Q 133 [some (.ref 57), some (.int (nI (10 * x.1 + x.2))), some (.int (bI (!go))), some (.int (nI s)), some (.int (nI T)), some (.long (lN c)), none] [] xG1 I1 J1 := by
        intro I1 hI1 J1 hJ1 k57 k79 k35 k78
        cases go with
        | true =>
          refine iX12_goReading_133 (iX12_goReading_134 (fun h134 => absurd h134 ((by decide : ¬ ¬ bI (!true) = 0))) (fun h134 => ?_))
          refine iX12_goReading_137 (iX12_goReading_138 (iX12_goReading_141 (iX12_goReading_142 (iX12_goReading_143 (vin 96 (by decide) (by decide) (by decide)) (iX12_goReading_144 (iX12_goReading_145 (iX12_goReading_148 (iX12_goReading_149 (vp_in_nI (by omega) (by omega)) ?_))))))))
          rw [k78, eW]
          refine iX12_goReading_150 (iX12_goReading_152 ?_)
          rw [lN_mul, show J1 79 (0 : Int32).toNatClampNeg = _ from k79 0 (by omega)]
          refine iX12_goReading_153 ?_
          rw [lN_add]
          refine iX12_goReading_154 (vin 96 (by decide) (by decide) (by decide)) (iX12_goReading_155 (iX12_goReading_158 ?_))
          rw [ei]
          refine ih I1 _ _ _ _ trivial hI1 (hJ1.up (by decide)) (fun k hk => by rw [xu_row (by decide)]; exact k57 k hk) (fun t ht => ?_) (by rw [xu_row (by decide)]; exact k35)
          rw [eF]
          by_cases e : t = 0
          · subst e
            rw [show (0 : Int32).toNatClampNeg = 0 by decide, xu_eq, if_pos (⟨rfl, rfl⟩ : (0 : Nat) = 0 ∧ true = true), Nat.mul_add, Nat.add_assoc]
          · rw [show (0 : Int32).toNatClampNeg = 0 by decide, xu_col e, k79 t ht, if_neg (show ¬ (t = 0 ∧ true = true) from fun z => e z.1), Nat.add_zero]
        | false =>
          refine iX12_goReading_133 (iX12_goReading_134 (fun h134 => ?_) (fun h134 => by first | exact absurd ((by decide : ¬ bI (!false) = 0)) h134 | exact absurd h134 ((by decide : ¬ bI (!false) = 0))))
          refine iX12_goReading_155 (iX12_goReading_158 ?_)
          rw [ei]
          refine ih I1 _ _ _ _ trivial hI1 hJ1 k57 (fun t ht => ?_) k35
          rw [eF, k79 t ht, if_neg (show ¬ (t = 0 ∧ false = true) from fun z => absurd z.2 (by decide)), Nat.add_zero]
      refine iX12_goReading_28 (iX12_goReading_29 (iX12_goReading_31 (fun h31 => absurd h31 (f31)) (fun h31 => ?_)))
      refine iX12_goReading_34 (iX12_goReading_35 (iX12_goReading_38 (iX12_goReading_39 (vp_in_nI (by omega) (by omega)) ?_)))
      rw [eW]
      refine iX12_goReading_40 (iX12_goReading_41 (iX12_goReading_42 (fun h42 => ?_) (fun h42 => by first | exact absurd (n42) h42 | exact absurd h42 (n42))))
      refine iX12_goReading_48 (iX12_goReading_49 (iX12_goReading_50 (iX12_goReading_51 (iX12_goReading_53 (by decide) ?_))))
      rw [eb]
      refine iX12_goReading_54 (s_X12_sinceWith wI hb _) ?_
      rw [show I 7 x.1 = I0 7 x.1 by rw [fI.1 7 (by decide) (by decide)], th_eq hbl hb10 (by omega), hT]
      refine iX12_goReading_57 (iX12_goReading_59 (iX12_goReading_60 (iX12_goReading_62 (iX12_goReading_63 (iX12_goReading_66 (iX12_goReading_67 (vin 4 (by decide) (by decide) (by decide)) (iX12_goReading_68 (iX12_goReading_69 (iX12_goReading_72 (iX12_goReading_73 (vin 4 (by decide) (by decide) (by decide)) (iX12_goReading_74 (iX12_goReading_75 (iX12_goReading_77 (by decide) (iX12_goReading_78 (iX12_goReading_79 (iX12_goReading_81 (by decide) ?_))))))))))))))))
      rw [j0, j1, eb, es]
      refine jX12_goReading_82 sp (fun r82 g82 I82 J82 hq => ?_)
      obtain ⟨rfl, rfl, hq3, rfl⟩ := hq
      refine iX12_goReading_85 ?_
      rw [elc]
      refine iX12_goReading_86 (iX12_goReading_88 (iX12_goReading_89 (iX12_goReading_92 (iX12_goReading_94 (iX12_goReading_95 (vp_in_nI (by omega) (by omega)) (iX12_goReading_96 (iX12_goReading_97 (iX12_goReading_100 (iX12_goReading_101 (vp_in_nI (by omega) (by omega)) ?_)))))))))
      rw [eW, nI_clamp (by omega), h79 T (by omega)]
      refine iX12_goReading_102 (iX12_goReading_105 (iX12_goReading_107 ?_))
      rw [elm]
      refine iX12_goReading_108 ?_
      rw [lN_mul]
      refine iX12_goReading_109 ?_
      rw [lN_add]
      refine iX12_goReading_110 (vp_in_nI (by omega) (by omega)) (iX12_goReading_111 (iX12_goReading_112 (iX12_goReading_113 (iX12_goReading_116 (iX12_goReading_117 (iX12_goReading_120 (iX12_goReading_121 (vp_in_nI (by omega) (by omega)) ?_)))))))
      rw [xu_row (by decide), xu_row (by decide), eW, nI_clamp (by omega), h35]
      refine iX12_goReading_122 (iX12_goReading_125 (iX12_goReading_127 ?_))
      rw [elm]
      refine iX12_goReading_128 ?_
      rw [lN_mul]
      refine iX12_goReading_129 ?_
      rw [lN_add]
      refine iX12_goReading_130 ?_
      refine key _ (hI.tr hq3) _ ((hJ.up (by decide)).up (by decide)) (fun k hk => ?_) (fun t ht => ?_) xu_eq ?_
      · rw [xu_col hk, xu_row (by decide)]
        exact h57 k hk
      · rw [xu_row (by decide)]
        by_cases e : t = T
        · subst e
          rw [xu_eq, if_pos rfl]
        · rw [xu_col e, h79 t ht, if_neg (fun z => e z.symm), Nat.mul_zero, Nat.add_zero]
      · rw [xu_rowf (by decide), xu_rowf (by decide)]
theorem s_X12_goReading (h : Wd I0 nB nS ls) {x : Nat × Nat} (hb : x.1 < nB) (hs : x.2 < nS) {cl : List (Nat × Nat)} (h95 : ∀ p ∈ cl, p.2 ≤ 95) (ht : lsum cl (fun _ => 1) ≤ 12 ^ 9) (go : Bool) (hW0 : MW (J0 78) (wsum cl)) {bl : Nat} (hbl : J0 57 34 = lN bl) : Spec 15 (1000000, 0, 0) M_X12_goReading [.ref 57, .int (nI (10 * x.1 + x.2)), .int (bI (!go))] xG1 I0 J0 (fun r g i j => r = none ∧ g = xG1 ∧ xFr [75, 76] I0 i ∧ xFJ [57, 78, 79] J0 j ∧ MW (j 78) (wsum (stL (crx I0 ls x) (thx I0 x) go cl)) ∧ j 57 35 = lN (psd (crx I0 ls x) cl) ∧ j 57 34 = lN (bl * 12) ∧ ∀ k, k ≠ 34 → k ≠ 35 → j 57 k = J0 57 k) := by
  have g96 : ∀ f : Nat → Nat, gsum (wsum cl) f 96 = lsum cl f := fun f => gsum_lsum f 96 cl (fun p hp => by have := h95 p hp; omega)
  refine spec_of (L := [some (.ref 57), some (.int (nI (10 * x.1 + x.2))), some (.int (bI (!go))), none, none, none, none]) (by decide) (Nat.le_of_ble_eq_true rfl) rfl ?_
  refine iX12_goReading_0 (iX12_goReading_1 ?_)
  refine m_zero (fun J hJ hz => ?_) 96 0 (by omega) J0 xFJ.rf (fun t ht => absurd ht (by omega))
  have hJ1 : xFJ [57, 79] J0 (xu J 57 35 0) := fun a ha => by
    simp only [List.mem_cons, List.not_mem_nil, or_false, not_or] at ha
    rw [xu_rowf ha.1]
    exact hJ a (by simp only [List.mem_cons, List.not_mem_nil, or_false]; exact ha.2)
  have rest := m_spread (Q := (fun r g i j => r = none ∧ g = xG1 ∧ xFr [75, 76] I0 i ∧ xFJ [57, 78, 79] J0 j ∧ MW (j 78) (wsum (stL (crx I0 ls x) (thx I0 x) go cl)) ∧ j 57 35 = lN (psd (crx I0 ls x) cl) ∧ j 57 34 = lN (bl * 12) ∧ ∀ k, k ≠ 34 → k ≠ 35 → j 57 k = J0 57 k)) (J0 := J0) h hb hs ht go hW0 (fun I J a4 a5 a6 hI hJ h57 h79 h35 => by
    refine iX12_goReading_161 (iX12_goReading_162 ?_)
    refine m_copy (J0 := J) (W2 := wsum (stL (crx I0 ls x) (thx I0 x) go cl)) (fun t ht => by rw [h79 t ht, g96, wsum_st]) (fun J2 hJ2 hM => ?_) 96 0 (by omega) J xFJ.rf (fun t ht => absurd ht (by omega))
    have e34 : J2 57 34 = lN bl := by rw [hJ2 57 (by decide), h57 34 (by decide)]; exact hbl
    refine iX12_goReading_187 (iX12_goReading_188 (iX12_goReading_189 (iX12_goReading_192 (iX12_goReading_195 (iX12_goReading_196 (iX12_goReading_199 ?_))))))
    refine ⟨rfl, rfl, hI, fun a ha => ?_, fun s hs => ?_, ?_, ?_, fun k h1 h2 => ?_⟩
    · simp only [List.mem_cons, List.not_mem_nil, or_false, not_or] at ha
      rw [xu_rowf ha.1, hJ2 a (by simp only [List.mem_cons, List.not_mem_nil, or_false]; exact ha.2.1), hJ a (by simp only [List.mem_cons, List.not_mem_nil, or_false, not_or]; exact ⟨ha.1, ha.2.2⟩)]
    · rw [xu_row (by decide)]
      exact hM s hs
    · rw [xu_col (by decide), hJ2 57 (by decide), h35, g96]
      rfl
    · rw [xu_eq, e34]
      exact lN_mul bl 12
    · rw [xu_col h1, hJ2 57 (by decide), h57 k h2]) 96 0 (by omega) I0 (xu J 57 35 0) none none none trivial xFr.rf hJ1 (fun k hk => by rw [xu_col hk, hJ 57 (by decide)]) (fun t ht => by rw [xu_row (by decide), hz t ht]; rfl) xu_eq
  exact iX12_goReading_21 (iX12_goReading_22 (iX12_goReading_23 (iX12_goReading_26 (iX12_goReading_27 rest))))
theorem s_X12_layWeights (h : Wd I0 nB nS ls) {si : Nat} (hs : si ≤ 95) (e15 : I0 15 0 = nI si) : Spec 5 (1000000, 0, 0) M_X12_layWeights [.ref 57] xG1 I0 J0 (fun r g i j => r = none ∧ g = xG1 ∧ i = I0 ∧ xFJ [57, 78] J0 j ∧ MW (j 78) (wsum [(1, si)]) ∧ j 57 34 = lN 1 ∧ ∀ k, k ≠ 34 → j 57 k = J0 57 k) := by
  have e2 : I0 64 (2 : Int32).toNatClampNeg = nI si := h.2.2.2.2.2.2.2.2.1.2.2.1.trans e15
  refine spec_of (L := [some (.ref 57), none]) (by decide) (Nat.le_of_ble_eq_true rfl) rfl ?_
  have key : ∀ (m s : Nat), s + m = 96 → ∀ (J : xJ), xFJ [78] J0 J → (∀ t : Nat, t < s → J 78 t = 0) → WP 5 (1000000, 0, 0) none M_X12_layWeights (fun r g i j => r = none ∧ g = xG1 ∧ i = I0 ∧ xFJ [57, 78] J0 j ∧ MW (j 78) (wsum [(1, si)]) ∧ j 57 34 = lN 1 ∧ ∀ k, k ≠ 34 → j 57 k = J0 57 k) 2 [some (.ref 57), some (.int (nI s))] [] xG1 I0 J := by
    intro m
    induction m with
    | zero =>
      intro s hs2 J hJ hz
      obtain rfl : s = 96 := by omega
      refine iX12_layWeights_2 (iX12_layWeights_3 (iX12_layWeights_5 (fun h5 => ?_) (fun h5 => by first | exact absurd ((by decide : (95 : Int32) < nI 96)) h5 | exact absurd h5 ((by decide : (95 : Int32) < nI 96)))))
      refine iX12_layWeights_21 (iX12_layWeights_22 (iX12_layWeights_25 (iX12_layWeights_26 (iX12_layWeights_29 (iX12_layWeights_30 (vin 4 (by decide) (by decide) (by decide)) ?_)))))
      rw [e2]
      refine iX12_layWeights_31 (iX12_layWeights_32 (vp_in_nI (by omega) (by omega)) (iX12_layWeights_33 (iX12_layWeights_34 (iX12_layWeights_35 (iX12_layWeights_38 ?_)))))
      rw [nI_clamp (by omega)]
      refine ⟨rfl, rfl, rfl, fun a ha => ?_, fun s hs3 => ?_, xu_eq, fun k hk => ?_⟩
      · simp only [List.mem_cons, List.not_mem_nil, or_false, not_or] at ha
        rw [xu_rowf ha.1, xu_rowf ha.2]
        exact hJ a (by simp only [List.mem_cons, List.not_mem_nil, or_false]; exact ha.2)
      · rw [xu_row (by decide)]
        by_cases q : s = si
        · subst q
          rw [xu_eq]
          simp [wsum, lsum]
          rfl
        · rw [xu_col q, hz s hs3]
          have : wsum [(1, si)] s = 0 := by simp [wsum, lsum]; omega
          rw [this]
          rfl
      · rw [xu_col hk, xu_row (by decide), hJ 57 (by decide)]
    | succ m ih =>
      intro s hs2 J hJ hz
      have ei : nI s + (1) = nI (s + 1) := nI_1 _
      refine iX12_layWeights_2 (iX12_layWeights_3 (iX12_layWeights_5 (fun h5 => absurd h5 (nI_nlt (b := s) (a := 95) (by omega) (by omega))) (fun h5 => ?_)))
      refine iX12_layWeights_8 (iX12_layWeights_9 (iX12_layWeights_12 (iX12_layWeights_13 (iX12_layWeights_14 (vp_in_nI (by omega) (by omega)) (iX12_layWeights_15 (iX12_layWeights_18 ?_))))))
      rw [ei, nI_clamp (by omega)]
      refine ih (s + 1) (by omega) _ (hJ.up (by decide)) (fun t ht => ?_)
      by_cases q : t = s
      · subst q; exact xu_eq
      · rw [xu_col q]; exact hz t (by omega)
  exact iX12_layWeights_0 (iX12_layWeights_1 (key 96 0 (by omega) J0 xFJ.rf (fun t ht => absurd ht (by omega))))
end
