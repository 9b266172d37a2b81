/-! ===== years by draws ===== -/
abbrev dT : Type := Int32 × Int32 × Int32 × Int32 × Int32
def gainV (I : xI) (bill : Int32) (b : Nat) : Int32 := if bill < 0 then I 10 b else if nI b = bill then 1 else 0
def dA (births : Int32) (t : dT) : dT := if rm (ush (dz t.1) 16) 12 < births then (dz t.1, t.2.1, 0, rm (ush (dz t.1) 20) 4, 0) else (dz t.1, t.2)
noncomputable def dB (I : xI) (ls : lwT) (bill : Int32) (x : Nat × Nat) (t : dT) : dT := if rm (ush t.1 8) 12 < nI (cyN I ls (f_min 95 (t.2.2.2.2 + I 7 x.1)) t.2.2.1 t.2.2.2.1 x.1 x.2) then (t.1, t.2.1, t.2.2.1, t.2.2.2.1, 0) else (t.1, t.2.1 + gainV I bill x.1, t.2.2.1, t.2.2.2.1, f_min 95 (t.2.2.2.2 + I 7 x.1))
noncomputable def dRun (I : xI) (ls : lwT) (births bill : Int32) : List (Nat × Nat) → dT → dT
  | [], t => t
  | x :: xs, t => dRun I ls births bill xs (dB I ls bill x (dA births t))
noncomputable def dYears (I : xI) (ls : lwT) (births bill : Int32) (A : List (Nat × Nat)) : Nat → Int32 × Int32 → Int32
  | 0, p => p.2
  | n + 1, p => dYears I ls births bill A n ((dRun I ls births bill A (p.1, p.2, I 13 0, I 14 0, I 15 0)).1, (dRun I ls births bill A (p.1, p.2, I 13 0, I 14 0, I 15 0)).2.1)
theorem gainV_fr {I I' : xI} (h : Fq I I') {bill : Int32} {b : Nat} : gainV I' bill b = gainV I bill b := by
  unfold gainV
  rw [h.1 10 (by decide) (by decide)]
theorem dB_fr {I I' : xI} (h : Fq I I') {ls : lwT} {bill : Int32} {x : Nat × Nat} {t : dT} : dB I' ls bill x t = dB I ls bill x t := by
  unfold dB
  rw [cyN_fr h, gainV_fr h, h.1 7 (by decide) (by decide)]
theorem dRun_fr {I I' : xI} (h : Fq I I') {ls : lwT} {births bill : Int32} : ∀ (A : List (Nat × Nat)) (t : dT), dRun I' ls births bill A t = dRun I ls births bill A t
  | [], _ => rfl
  | x :: xs, t => by
    simp only [dRun]
    rw [dB_fr h, dRun_fr h xs]
theorem dYears_fr {I I' : xI} (h : Fq I I') {ls : lwT} {births bill : Int32} {A : List (Nat × Nat)} : ∀ n p, dYears I' ls births bill A n p = dYears I ls births bill A n p
  | 0, _ => rfl
  | n + 1, p => by
    simp only [dYears]
    rw [dYears_fr h n, dRun_fr h, h.1 13 (by decide) (by decide), h.1 14 (by decide) (by decide), h.1 15 (by decide) (by decide)]
section
variable {I0 : xI} {J : xJ} {nB nS : Nat} {ls : lwT} {A : List (Nat × Nat)}
theorem s_X0_gain {I : xI} (h : Wd I nB nS ls) {b s : Nat} (hb : b < nB) (hs : s < nS) (bill : Int32) : SpecF 3 M_X0_gain [.ref 25, .int (nI (10 * b + s)), .int bill] xG1 I J (some (.int (gainV I bill b))) I J := by
  obtain ⟨hB, hS⟩ := h.le
  have hb10 : b < 10 := by have := h.2.1; omega
  have hs6 : s < 6 := by have := h.2.2.2.1; omega
  have eb : nI (10 * b + s) / 10 = nI b := bs_div hb10 (by omega)
  have g3 : f_get I (nI b) 3 = I 10 b := get_b h hb (w := 3) (by omega)
  refine specF_of (L := [some (.ref 25), some (.int (nI (10 * b + s))), some (.int bill)]) (by decide) (Nat.le_of_ble_eq_true rfl) rfl ?_
  refine iX0_gain_0 (iX0_gain_1 (fun h1 => ?_) (fun h1 => ?_))
  · refine iX0_gain_13 (iX0_gain_14 (iX0_gain_16 (by decide) ?_))
    rw [eb]
    refine iX0_gain_17 (iX0_gain_18 (fun h18 => ?_) (fun h18 => ?_))
    · refine iX0_gain_25 (iX0_gain_26 ?_)
      refine ⟨congrArg (fun z => some (Value.int z)) ?_, rfl, rfl, rfl⟩
      unfold gainV
      grind
    · refine iX0_gain_21 (iX0_gain_22 (iX0_gain_26 ?_))
      refine ⟨congrArg (fun z => some (Value.int z)) ?_, rfl, rfl, rfl⟩
      unfold gainV
      grind
  · refine iX0_gain_4 (iX0_gain_5 (iX0_gain_8 (iX0_gain_9 (s_X5_worth _ hB hS) ?_)))
    rw [eb, g3]
    refine iX0_gain_12 ?_
    refine ⟨congrArg (fun z => some (Value.int z)) ?_, rfl, rfl, rfl⟩
    unfold gainV
    grind
theorem c_dLoop (h : Wd I0 nB nS ls) (hA : agOk nB nS A) {births bill : Int32} {x1 x2 yr : Int32} {Q : xP} : ∀ (X : List (Nat × Nat)) (j : Nat), (∀ (k : Nat) (x : Nat × Nat), X[k]? = some x → A[j + k]? = some x) → j + X.length = A.length → ∀ (t : dT) (I : xI) (a12 : Option Value), xFr [4, 5] I0 I → AgC I0 A → (∀ (I : xI) (a12 : Option Value), xFr [4, 5] I0 I → WP 20 (1000000, 0, 0) none M_X0_drawnYears Q 177 [some (.ref 25), some (.int x1), some (.int x2), some (.int births), some (.int bill), some (.int (dRun I0 ls births bill X t).1), some (.int (dRun I0 ls births bill X t).2.1), some (.int yr), some (.int (dRun I0 ls births bill X t).2.2.1), some (.int (dRun I0 ls births bill X t).2.2.2.1), some (.int (dRun I0 ls births bill X t).2.2.2.2), some (.int (nI A.length)), a12] [] xG1 I J) → WP 20 (1000000, 0, 0) none M_X0_drawnYears Q 51 [some (.ref 25), some (.int x1), some (.int x2), some (.int births), some (.int bill), some (.int t.1), some (.int t.2.1), some (.int yr), some (.int t.2.2.1), some (.int t.2.2.2.1), some (.int t.2.2.2.2), some (.int (nI j)), a12] [] xG1 I J := by
  intro X
  induction X with
  | nil =>
    intro j h1 h2 t I a12 hI hAg kk
    obtain rfl : j = A.length := by simpa using h2
    have e4 : I 25 4 = nI A.length := by rw [hI 25 (by decide)]; exact hAg.1
    refine iX0_drawnYears_51 (iX0_drawnYears_53 (iX0_drawnYears_54 ?_))
    rw [e4]
    refine iX0_drawnYears_57 (fun h57 => ?_) (fun h57 => by first | exact absurd (Int32.le_refl _) h57 | exact absurd h57 (Int32.le_refl _))
    exact kk I a12 hI
  | cons x X ih =>
    intro j h1 h2 t I a12 hI hAg kk
    have hxm := h1 0 x rfl
    rw [Nat.add_zero] at hxm
    obtain ⟨hb, hs⟩ := hA.2 x (List.mem_of_getElem? hxm)
    have hl := hA.1
    simp only [List.length_cons] at h2
    have fI := Fq.of hI (by decide)
    have wI := h.fr fI
    have e4 : I 25 4 = nI A.length := by rw [hI 25 (by decide)]; exact hAg.1
    have er : ∀ I', xFr [4, 5] I0 I' → I' 26 (nI j).toNatClampNeg = nI (10 * x.1 + x.2) := fun I' hI' => by
      rw [nI_clamp (by omega), hI' 26 (by decide)]
      exact hAg.2 j x hxm
    have ei : nI j + (1) = nI (j + 1) := nI_1 _
    have f57 : ¬ nI A.length ≤ nI j := nI_ge (by omega) (by omega)
    have hvj : vp_in (nI j) 10 := vp_in_nI (by omega) (by omega)
    have hb10 : x.1 < 10 := by have := h.2.1; omega
    have hs6 : x.2 < 10 := by have := h.2.2.2.1; omega
    -- behind the birth
    have tail : ∀ t : dT, (∀ (I : xI) (a12 : Option Value), xFr [4, 5] I0 I → WP 20 (1000000, 0, 0) none M_X0_drawnYears Q 51 [some (.ref 25), some (.int x1), some (.int x2), some (.int births), some (.int bill), some (.int (dB I0 ls bill x t).1), some (.int (dB I0 ls bill x t).2.1), some (.int yr), some (.int (dB I0 ls bill x t).2.2.1), some (.int (dB I0 ls bill x t).2.2.2.1), some (.int (dB I0 ls bill x t).2.2.2.2), some (.int (nI (j + 1))), a12] [] xG1 I J) → ∀ a12, WP 20 (1000000, 0, 0) none M_X0_drawnYears Q 94 [some (.ref 25), some (.int x1), some (.int x2), some (.int births), some (.int bill), some (.int t.1), some (.int t.2.1), some (.int yr), some (.int t.2.2.1), some (.int t.2.2.2.1), some (.int t.2.2.2.2), some (.int (nI j)), a12] [] xG1 I J := by
      intro t kt a12
      obtain ⟨z, su, te, wi, si⟩ := t
      have sp := s_X5_crying (J := J) wI hb hs te wi si
      rw [show I 7 x.1 = I0 7 x.1 by rw [fI.1 7 (by decide) (by decide)], cyN_fr fI] at sp
      unfold dB at kt
      simp only at kt ⊢
      by_cases q : rm (ush z 8) 12 < nI (cyN I0 ls (f_min 95 (si + I0 7 x.1)) te wi x.1 x.2)
      · simp only [if_pos q] at kt
        refine iX0_drawnYears_94 (iX0_drawnYears_96 (iX0_drawnYears_97 (iX0_drawnYears_100 (iX0_drawnYears_101 (iX0_drawnYears_104 (iX0_drawnYears_106 hvj ?_))))))
        rw [er I hI]
        refine iX0_drawnYears_107 (iX0_drawnYears_109 (iX0_drawnYears_111 (jX0_drawnYears_113 sp (fun r113 g113 I113 J113 hq => ?_))))
        obtain ⟨rfl, rfl, hq3, rfl⟩ := hq
        refine iX0_drawnYears_116 (s_X4_cries _ _) ?_
        rw [if_pos q]
        refine iX0_drawnYears_119 (iX0_drawnYears_121 (iX0_drawnYears_123 (fun h123 => absurd h123 ((by decide : ¬ (1 : Int32) = 0))) (fun h123 => ?_)))
        refine iX0_drawnYears_126 (iX0_drawnYears_127 (iX0_drawnYears_146 (iX0_drawnYears_148 (iX0_drawnYears_150 (fun h150 => ?_) (fun h150 => by first | exact absurd ((by decide : ¬ (1 : Int32) = 0)) h150 | exact absurd h150 ((by decide : ¬ (1 : Int32) = 0)))))))
        refine iX0_drawnYears_171 (iX0_drawnYears_174 ?_)
        rw [ei]
        exact kt _ _ (hI.tr hq3)
      · simp only [if_neg q] at kt
        refine iX0_drawnYears_94 (iX0_drawnYears_96 (iX0_drawnYears_97 (iX0_drawnYears_100 (iX0_drawnYears_101 (iX0_drawnYears_104 (iX0_drawnYears_106 hvj ?_))))))
        rw [er I hI]
        refine iX0_drawnYears_107 (iX0_drawnYears_109 (iX0_drawnYears_111 (jX0_drawnYears_113 sp (fun r113 g113 I113 J113 hq => ?_))))
        obtain ⟨rfl, rfl, hq3, rfl⟩ := hq
        have hI2 := hI.tr hq3
        have w2 := h.fr (Fq.of hI2 (by decide))
        obtain ⟨hB2, hS2⟩ := w2.le
        have hs2 : f_sinceB I113 (nI (10 * x.1 + x.2)) si = f_min 95 (si + I0 7 x.1) := by
          unfold f_sinceB
          rw [bs_div hb10 hs6, show f_get I113 (nI x.1) 0 = I113 7 x.1 from get_b w2 hb (w := 0) (by omega), hI2 7 (by decide)]
        refine iX0_drawnYears_116 (s_X4_cries _ _) ?_
        rw [if_neg q]
        refine iX0_drawnYears_119 (iX0_drawnYears_121 (iX0_drawnYears_123 (fun h123 => ?_) (fun h123 => by first | exact absurd (rfl) h123 | exact absurd h123 (rfl))))
        refine iX0_drawnYears_130 (iX0_drawnYears_131 (iX0_drawnYears_134 (iX0_drawnYears_135 (iX0_drawnYears_138 (iX0_drawnYears_140 hvj ?_)))))
        rw [er _ hI2]
        refine iX0_drawnYears_141 (iX0_drawnYears_143 (s_X5_sinceBehind _ _ hB2 hS2) ?_)
        rw [hs2]
        refine iX0_drawnYears_146 (iX0_drawnYears_148 (iX0_drawnYears_150 (fun h150 => absurd h150 ((fun z => z rfl))) (fun h150 => ?_)))
        refine iX0_drawnYears_153 (iX0_drawnYears_155 (iX0_drawnYears_156 (iX0_drawnYears_157 (iX0_drawnYears_160 (iX0_drawnYears_162 hvj ?_)))))
        rw [er _ hI2]
        refine iX0_drawnYears_163 (iX0_drawnYears_165 (s_X0_gain w2 hb hs bill) ?_)
        rw [gainV_fr (Fq.of hI2 (by decide))]
        refine iX0_drawnYears_168 (iX0_drawnYears_169 (iX0_drawnYears_171 (iX0_drawnYears_174 ?_)))
        rw [ei]
        exact kt _ _ hI2
    have ht := tail (dA births t) (fun I a12 hI => ih (j + 1) (fun k x hk => by rw [show j + 1 + k = j + (k + 1) by omega]; exact h1 (k + 1) x hk) (by omega) _ I a12 hI hAg kk)
    obtain ⟨z, su, te, wi, si⟩ := t
    unfold dA at ht
    simp only at ht
    by_cases q : rm (ush (dz z) 16) 12 < births
    · simp only [if_pos q] at ht
      refine iX0_drawnYears_51 (iX0_drawnYears_53 (iX0_drawnYears_54 ?_))
      rw [e4]
      refine iX0_drawnYears_57 (fun h57 => absurd h57 (f57)) (fun h57 => ?_)
      refine iX0_drawnYears_60 (iX0_drawnYears_62 (s_X4_drawBehind _) (iX0_drawnYears_65 (iX0_drawnYears_67 (iX0_drawnYears_69 (iX0_drawnYears_71 (iX0_drawnYears_72 (iX0_drawnYears_74 (by decide) (iX0_drawnYears_75 (iX0_drawnYears_76 (fun h76 => absurd h76 (Int32.not_le.mpr q)) (fun h76 => ?_))))))))))
      refine iX0_drawnYears_79 (iX0_drawnYears_80 (iX0_drawnYears_82 (iX0_drawnYears_84 (iX0_drawnYears_86 (iX0_drawnYears_87 (iX0_drawnYears_88 (by decide) (iX0_drawnYears_89 (iX0_drawnYears_91 (iX0_drawnYears_92 ?_)))))))))
      exact ht _
    · simp only [if_neg q] at ht
      refine iX0_drawnYears_51 (iX0_drawnYears_53 (iX0_drawnYears_54 ?_))
      rw [e4]
      refine iX0_drawnYears_57 (fun h57 => absurd h57 (f57)) (fun h57 => ?_)
      refine iX0_drawnYears_60 (iX0_drawnYears_62 (s_X4_drawBehind _) (iX0_drawnYears_65 (iX0_drawnYears_67 (iX0_drawnYears_69 (iX0_drawnYears_71 (iX0_drawnYears_72 (iX0_drawnYears_74 (by decide) (iX0_drawnYears_75 (iX0_drawnYears_76 (fun h76 => ?_) (fun h76 => by first | exact absurd (Int32.not_lt.mp q) h76 | exact absurd h76 (Int32.not_lt.mp q)))))))))))
      exact ht _
theorem c_dYears (h : Wd I0 nB nS ls) (hA : agOk nB nS A) (hAg : AgC I0 A) {births bill x1 : Int32} {N : Nat} (hN : N ≤ 30) : ∀ (m y : Nat), y + m = N → ∀ (p : Int32 × Int32) (I : xI) (a8 a9 a10 a11 a12 : Option Value), xFr [4, 5] I0 I → WP 20 (1000000, 0, 0) none M_X0_drawnYears (fun r g i j => r = some (.int (dYears I0 ls births bill A m p)) ∧ g = xG1 ∧ xFr [4, 5] I0 i ∧ j = J) 9 [some (.ref 25), some (.int x1), some (.int (nI N)), some (.int births), some (.int bill), some (.int p.1), some (.int p.2), some (.int (nI y)), a8, a9, a10, a11, a12] [] xG1 I J := by
  intro m
  induction m with
  | zero =>
    intro y hy p I a8 a9 a10 a11 a12 hI
    obtain rfl : y = N := by omega
    refine iX0_drawnYears_9 (iX0_drawnYears_11 (iX0_drawnYears_12 (fun h12 => ?_) (fun h12 => by first | exact absurd (Int32.le_refl _) h12 | exact absurd h12 (Int32.le_refl _))))
    refine iX0_drawnYears_183 (iX0_drawnYears_185 ?_)
    exact ⟨rfl, rfl, hI, rfl⟩
  | succ m ih =>
    intro y hy p I a8 a9 a10 a11 a12 hI
    have fI := Fq.of hI (by decide)
    have wI := h.fr fI
    obtain ⟨hB, hS⟩ := wI.le
    have e6 : f_get I 0 6 = I0 13 0 := (f_get_its 6 (by omega) (by omega)).trans (by rw [fI.1 13 (by decide) (by decide)])
    have e7 : f_get I 0 7 = I0 14 0 := (f_get_its 7 (by omega) (by omega)).trans (by rw [fI.1 14 (by decide) (by decide)])
    have e8 : f_get I 0 8 = I0 15 0 := (f_get_its 8 (by omega) (by omega)).trans (by rw [fI.1 15 (by decide) (by decide)])
    have ei : nI y + (1) = nI (y + 1) := nI_1 _
    have f12 : ¬ nI N ≤ nI y := nI_ge (by omega) (by omega)
    refine iX0_drawnYears_9 (iX0_drawnYears_11 (iX0_drawnYears_12 (fun h12 => absurd h12 (f12)) (fun h12 => ?_)))
    refine iX0_drawnYears_15 (iX0_drawnYears_16 (iX0_drawnYears_19 (iX0_drawnYears_21 (s_X5_its 6 hB hS) ?_)))
    rw [e6]
    refine iX0_drawnYears_24 (iX0_drawnYears_26 (iX0_drawnYears_27 (iX0_drawnYears_30 (iX0_drawnYears_32 (s_X5_its 7 hB hS) ?_))))
    rw [e7]
    refine iX0_drawnYears_35 (iX0_drawnYears_37 (iX0_drawnYears_38 (iX0_drawnYears_41 (iX0_drawnYears_43 (s_X5_its 8 hB hS) ?_))))
    rw [e8]
    refine iX0_drawnYears_46 (iX0_drawnYears_48 (iX0_drawnYears_49 ?_))
    refine c_dLoop h hA A 0 (fun k x hk => by rw [Nat.zero_add]; exact hk) (by omega) (p.1, p.2, I0 13 0, I0 14 0, I0 15 0) I a12 hI hAg (fun I2 a12 hI2 => ?_)
    refine iX0_drawnYears_177 (iX0_drawnYears_180 ?_)
    rw [ei]
    exact ih (y + 1) (by omega) ((dRun I0 ls births bill A (p.1, p.2, I0 13 0, I0 14 0, I0 15 0)).1, (dRun I0 ls births bill A (p.1, p.2, I0 13 0, I0 14 0, I0 15 0)).2.1) I2 _ _ _ _ _ hI2
theorem s_X0_drawnYears (h : Wd I0 nB nS ls) (hA : agOk nB nS A) (hAg : AgC I0 A) {births bill seed : Int32} {N : Nat} (hN : N ≤ 30) : Spec 20 (1000000, 0, 0) M_X0_drawnYears [.ref 25, .int seed, .int (nI N), .int births, .int bill] xG1 I0 J (fun r g i j => r = some (.int (dYears I0 ls births bill A N (seed, 0))) ∧ g = xG1 ∧ xFr [4, 5] I0 i ∧ j = J) := by
  refine spec_of (L := [some (.ref 25), some (.int seed), some (.int (nI N)), some (.int births), some (.int bill), none, none, none, none, none, none, none, none]) (by decide) (Nat.le_of_ble_eq_true rfl) rfl ?_
  have := c_dYears (J := J) h hA hAg (births := births) (bill := bill) (x1 := seed) hN N 0 (by omega) (seed, 0) I0 none none none none none xFr.rf
  exact iX0_drawnYears_0 (iX0_drawnYears_1 (iX0_drawnYears_3 (iX0_drawnYears_4 (iX0_drawnYears_6 (iX0_drawnYears_7 this)))))
/-! the reference's -/
theorem m_dLoop (h : Wd I0 nB nS ls) (hA : agOk nB nS A) {nb births bill : Int32} (hnb : nb - nb / 100 * 100 = births) {x1 x2 yr : Int32} {Q : xP} : ∀ (X : List (Nat × Nat)) (j : Nat), (∀ (k : Nat) (x : Nat × Nat), X[k]? = some x → A[j + k]? = some x) → j + X.length = A.length → ∀ (t : dT) (I : xI) (a12 : Option Value), xFr [75, 76] I0 I → AgM I0 A → (∀ (I : xI) (a12 : Option Value), xFr [75, 76] I0 I → WP 1000 (1000000, 0, 0) none M_X12_drawn Q 264 [some (.ref 57), some (.int x1), some (.int x2), some (.int nb), some (.int bill), some (.int (dRun I0 ls births bill X t).1), some (.int (dRun I0 ls births bill X t).2.1), some (.int yr), some (.int (dRun I0 ls births bill X t).2.2.1), some (.int (dRun I0 ls births bill X t).2.2.2.1), some (.int (dRun I0 ls births bill X t).2.2.2.2), some (.int (nI A.length)), a12] [] xG1 I J) → WP 1000 (1000000, 0, 0) none M_X12_drawn Q 114 [some (.ref 57), some (.int x1), some (.int x2), some (.int nb), some (.int bill), some (.int t.1), some (.int t.2.1), some (.int yr), some (.int t.2.2.1), some (.int t.2.2.2.1), some (.int t.2.2.2.2), some (.int (nI j)), a12] [] xG1 I J := by
  intro X
  induction X with
  | nil =>
    intro j h1 h2 t I a12 hI hAg kk
    obtain rfl : j = A.length := by simpa using h2
    have e4 : I 57 31 = nI A.length := by rw [hI 57 (by decide)]; exact hAg.1
    refine iX12_drawn_114 (iX12_drawn_116 (iX12_drawn_117 ?_))
    rw [e4]
    refine iX12_drawn_120 (fun h120 => ?_) (fun h120 => by first | exact absurd (Int32.le_refl _) h120 | exact absurd h120 (Int32.le_refl _))
    exact kk I a12 hI
  | cons x X ih =>
    intro j h1 h2 t I a12 hI hAg kk
    have hxm := h1 0 x rfl
    rw [Nat.add_zero] at hxm
    obtain ⟨hb, hs⟩ := hA.2 x (List.mem_of_getElem? hxm)
    have hl := hA.1
    simp only [List.length_cons] at h2
    have fI := Fq.of hI (by decide)
    have wI := h.fr fI
    have e4 : I 57 31 = nI A.length := by rw [hI 57 (by decide)]; exact hAg.1
    have er : ∀ I', xFr [75, 76] I0 I' → I' 77 (nI j).toNatClampNeg = nI (10 * x.1 + x.2) := fun I' hI' => by
      rw [nI_clamp (by omega), hI' 77 (by decide)]
      exact hAg.2 j x hxm
    have ei : nI j + (1) = nI (j + 1) := nI_1 _
    have f57 : ¬ nI A.length ≤ nI j := nI_ge (by omega) (by omega)
    have hvj : vp_in (nI j) 10 := vp_in_nI (by omega) (by omega)
    have hb10 : x.1 < 10 := by have := h.2.1; omega
    have hs6 : x.2 < 10 := by have := h.2.2.2.1; omega
    have eb := bs_div hb10 hs6
    have es := bs_rem hb10 hs6
    have e61 : ∀ I', xFr [75, 76] I0 I' → I' 61 (nI x.1).toNatClampNeg = I0 10 x.1 := fun I' hI' => by
      rw [nI_clamp (by omega), hI' 61 (by decide)]
      exact (h.2.2.2.2.2.2.1 x.1 hb10).2.2.2.1
    have tail : ∀ t : dT, (∀ (I : xI) (a12 : Option Value), xFr [75, 76] I0 I → WP 1000 (1000000, 0, 0) none M_X12_drawn Q 114 [some (.ref 57), some (.int x1), some (.int x2), some (.int nb), some (.int bill), some (.int (dB I0 ls bill x t).1), some (.int (dB I0 ls bill x t).2.1), some (.int yr), some (.int (dB I0 ls bill x t).2.2.1), some (.int (dB I0 ls bill x t).2.2.2.1), some (.int (dB I0 ls bill x t).2.2.2.2), some (.int (nI (j + 1))), a12] [] xG1 I J) → ∀ a12, WP 1000 (1000000, 0, 0) none M_X12_drawn Q 165 [some (.ref 57), some (.int x1), some (.int x2), some (.int nb), some (.int bill), some (.int t.1), some (.int t.2.1), some (.int yr), some (.int t.2.2.1), some (.int t.2.2.2.1), some (.int t.2.2.2.2), some (.int (nI j)), a12] [] xG1 I J := by
      intro t kt a12
      obtain ⟨z, su, te, wi, si⟩ := t
      have sp := s_X12_criesBy (J := J) wI hb hs (f_min 95 (si + I0 7 x.1)) te wi
      rw [cyN_fr fI] at sp
      unfold dB at kt
      simp only at kt ⊢
      by_cases q : rm (ush z 8) 12 < nI (cyN I0 ls (f_min 95 (si + I0 7 x.1)) te wi x.1 x.2)
      · simp only [if_pos q] at kt
        refine iX12_drawn_165 (iX12_drawn_166 (iX12_drawn_169 (iX12_drawn_171 hvj ?_)))
        rw [er I hI]
        refine iX12_drawn_172 (iX12_drawn_174 (by decide) ?_)
        rw [eb]
        refine iX12_drawn_175 (iX12_drawn_177 (iX12_drawn_178 (iX12_drawn_180 (iX12_drawn_182 (s_X12_sinceWith wI hb _) ?_))))
        rw [show I 7 x.1 = I0 7 x.1 by rw [fI.1 7 (by decide) (by decide)]]
        refine iX12_drawn_185 (iX12_drawn_187 (iX12_drawn_189 (iX12_drawn_191 (iX12_drawn_192 (iX12_drawn_194 (by decide) (iX12_drawn_195 (iX12_drawn_196 (iX12_drawn_198 (iX12_drawn_200 (iX12_drawn_202 (iX12_drawn_204 (iX12_drawn_205 (iX12_drawn_208 (iX12_drawn_210 hvj ?_))))))))))))))
        rw [er I hI]
        refine iX12_drawn_211 (iX12_drawn_213 (by decide) ?_)
        rw [eb, es]
        refine jX12_drawn_214 sp (fun r214 g214 I214 J214 hq => ?_)
        obtain ⟨rfl, rfl, hq3, rfl⟩ := hq
        refine iX12_drawn_217 (fun h217 => absurd h217 (Int32.not_le.mpr q)) (fun h217 => ?_)
        refine iX12_drawn_220 (iX12_drawn_221 (iX12_drawn_223 (iX12_drawn_258 (iX12_drawn_261 ?_))))
        rw [ei]
        exact kt _ _ (hI.tr hq3)
      · simp only [if_neg q] at kt
        unfold gainV at kt
        refine iX12_drawn_165 (iX12_drawn_166 (iX12_drawn_169 (iX12_drawn_171 hvj ?_)))
        rw [er I hI]
        refine iX12_drawn_172 (iX12_drawn_174 (by decide) ?_)
        rw [eb]
        refine iX12_drawn_175 (iX12_drawn_177 (iX12_drawn_178 (iX12_drawn_180 (iX12_drawn_182 (s_X12_sinceWith wI hb _) ?_))))
        rw [show I 7 x.1 = I0 7 x.1 by rw [fI.1 7 (by decide) (by decide)]]
        refine iX12_drawn_185 (iX12_drawn_187 (iX12_drawn_189 (iX12_drawn_191 (iX12_drawn_192 (iX12_drawn_194 (by decide) (iX12_drawn_195 (iX12_drawn_196 (iX12_drawn_198 (iX12_drawn_200 (iX12_drawn_202 (iX12_drawn_204 (iX12_drawn_205 (iX12_drawn_208 (iX12_drawn_210 hvj ?_))))))))))))))
        rw [er I hI]
        refine iX12_drawn_211 (iX12_drawn_213 (by decide) ?_)
        rw [eb, es]
        refine jX12_drawn_214 sp (fun r214 g214 I214 J214 hq => ?_)
        obtain ⟨rfl, rfl, hq3, rfl⟩ := hq
        have hI2 := hI.tr hq3
        refine iX12_drawn_217 (fun h217 => ?_) (fun h217 => by first | exact absurd (Int32.not_lt.mp q) h217 | exact absurd h217 (Int32.not_lt.mp q))
        refine iX12_drawn_226 (iX12_drawn_228 (iX12_drawn_230 (fun h230 => ?_) (fun h230 => ?_)))
        · refine iX12_drawn_243 (iX12_drawn_245 (iX12_drawn_247 (fun h247 => ?_) (fun h247 => ?_)))
          · refine iX12_drawn_254 (iX12_drawn_255 (iX12_drawn_256 (iX12_drawn_258 (iX12_drawn_261 ?_))))
            rw [ei]
            have kt := kt _ (some (.int (nI x.1))) hI2
            first
              | (rw [if_neg ‹¬ bill < 0›] at kt; first | (rw [if_pos ‹_›] at kt; exact kt) | (rw [if_neg ‹_›] at kt; exact kt) | (rw [if_pos (Decidable.not_not.mp ‹_›)] at kt; exact kt))
              | (rw [if_neg (Int32.not_lt.mpr ‹0 ≤ bill›)] at kt; first | (rw [if_pos ‹_›] at kt; exact kt) | (rw [if_neg ‹_›] at kt; exact kt) | (rw [if_pos (Decidable.not_not.mp ‹_›)] at kt; exact kt))
              | (rw [if_pos (show bill < 0 by grind)] at kt; exact kt)
          · refine iX12_drawn_250 (iX12_drawn_251 (iX12_drawn_255 (iX12_drawn_256 (iX12_drawn_258 (iX12_drawn_261 ?_)))))
            rw [ei]
            have kt := kt _ (some (.int (nI x.1))) hI2
            first
              | (rw [if_neg ‹¬ bill < 0›] at kt; first | (rw [if_pos ‹_›] at kt; exact kt) | (rw [if_neg ‹_›] at kt; exact kt) | (rw [if_pos (Decidable.not_not.mp ‹_›)] at kt; exact kt))
              | (rw [if_neg (Int32.not_lt.mpr ‹0 ≤ bill›)] at kt; first | (rw [if_pos ‹_›] at kt; exact kt) | (rw [if_neg ‹_›] at kt; exact kt) | (rw [if_pos (Decidable.not_not.mp ‹_›)] at kt; exact kt))
              | (rw [if_pos (show bill < 0 by grind)] at kt; exact kt)
        · refine iX12_drawn_233 (iX12_drawn_234 (iX12_drawn_237 (iX12_drawn_239 (vp_in_nI (by omega) (by omega)) ?_)))
          rw [e61 _ hI2]
          refine iX12_drawn_240 (iX12_drawn_255 (iX12_drawn_256 (iX12_drawn_258 (iX12_drawn_261 ?_))))
          rw [ei]
          have kt := kt _ (some (.int (nI x.1))) hI2
          first
            | (rw [if_neg ‹¬ bill < 0›] at kt; first | (rw [if_pos ‹_›] at kt; exact kt) | (rw [if_neg ‹_›] at kt; exact kt) | (rw [if_pos (Decidable.not_not.mp ‹_›)] at kt; exact kt))
            | (rw [if_neg (Int32.not_lt.mpr ‹0 ≤ bill›)] at kt; first | (rw [if_pos ‹_›] at kt; exact kt) | (rw [if_neg ‹_›] at kt; exact kt) | (rw [if_pos (Decidable.not_not.mp ‹_›)] at kt; exact kt))
            | (rw [if_pos (show bill < 0 by grind)] at kt; exact kt)
    have ht := tail (dA births t) (fun I a12 hI => ih (j + 1) (fun k x hk => by rw [show j + 1 + k = j + (k + 1) by omega]; exact h1 (k + 1) x hk) (by omega) _ I a12 hI hAg kk)
    obtain ⟨z, su, te, wi, si⟩ := t
    unfold dA at ht
    simp only at ht
    by_cases q : rm (ush (dz z) 16) 12 < births
    · simp only [if_pos q] at ht
      refine iX12_drawn_114 (iX12_drawn_116 (iX12_drawn_117 ?_))
      rw [e4]
      refine iX12_drawn_120 (fun h120 => absurd h120 (f57)) (fun h120 => ?_)
      refine iX12_drawn_123 (iX12_drawn_125 (iX12_drawn_128 (iX12_drawn_129 (iX12_drawn_132 (iX12_drawn_133 (iX12_drawn_135 (iX12_drawn_137 (iX12_drawn_139 (iX12_drawn_140 (iX12_drawn_142 (by decide) (iX12_drawn_143 (iX12_drawn_144 (iX12_drawn_146 (by decide) ?_)))))))))))))
      rw [hnb]
      refine iX12_drawn_147 (fun h147 => absurd h147 (Int32.not_le.mpr q)) (fun h147 => ?_)
      refine iX12_drawn_150 (iX12_drawn_151 (iX12_drawn_153 (iX12_drawn_155 (iX12_drawn_157 (iX12_drawn_158 (iX12_drawn_159 (by decide) (iX12_drawn_160 (iX12_drawn_162 (iX12_drawn_163 ?_)))))))))
      exact ht _
    · simp only [if_neg q] at ht
      refine iX12_drawn_114 (iX12_drawn_116 (iX12_drawn_117 ?_))
      rw [e4]
      refine iX12_drawn_120 (fun h120 => absurd h120 (f57)) (fun h120 => ?_)
      refine iX12_drawn_123 (iX12_drawn_125 (iX12_drawn_128 (iX12_drawn_129 (iX12_drawn_132 (iX12_drawn_133 (iX12_drawn_135 (iX12_drawn_137 (iX12_drawn_139 (iX12_drawn_140 (iX12_drawn_142 (by decide) (iX12_drawn_143 (iX12_drawn_144 (iX12_drawn_146 (by decide) ?_)))))))))))))
      rw [hnb]
      refine iX12_drawn_147 (fun h147 => ?_) (fun h147 => by first | exact absurd (Int32.not_lt.mp q) h147 | exact absurd h147 (Int32.not_lt.mp q))
      exact ht _
theorem m_dYears (h : Wd I0 nB nS ls) (hA : agOk nB nS A) (hAg : AgM I0 A) {nb births bill x1 x2 : Int32} (hnb : nb - nb / 100 * 100 = births) {N : Nat} (hN : N ≤ 30) (hnN : nb / 100 = nI N) : ∀ (m y : Nat), y + m = N → ∀ (p : Int32 × Int32) (I : xI) (a8 a9 a10 a11 a12 : Option Value), xFr [75, 76] I0 I → WP 1000 (1000000, 0, 0) none M_X12_drawn (fun r g i j => r = some (.int (dYears I0 ls births bill A m p)) ∧ g = xG1 ∧ xFr [75, 76] I0 i ∧ j = J) 78 [some (.ref 57), some (.int x1), some (.int x2), some (.int nb), some (.int bill), some (.int p.1), some (.int p.2), some (.int (nI y)), a8, a9, a10, a11, a12] [] xG1 I J := by
  intro m
  induction m with
  | zero =>
    intro y hy p I a8 a9 a10 a11 a12 hI
    obtain rfl : y = N := by omega
    refine iX12_drawn_78 (iX12_drawn_80 (iX12_drawn_81 (iX12_drawn_83 (by decide) ?_)))
    rw [hnN]
    refine iX12_drawn_84 (fun h84 => ?_) (fun h84 => by first | exact absurd (Int32.le_refl _) h84 | exact absurd h84 (Int32.le_refl _))
    refine iX12_drawn_270 (iX12_drawn_272 ?_)
    exact ⟨rfl, rfl, hI, rfl⟩
  | succ m ih =>
    intro y hy p I a8 a9 a10 a11 a12 hI
    have fI := Fq.of hI (by decide)
    have wI := h.fr fI
    obtain ⟨i0, i1, i2, -⟩ := wI.2.2.2.2.2.2.2.2.1
    have j2 : I 64 (2 : Int32).toNatClampNeg = I0 15 0 := i2.trans (by rw [fI.1 15 (by decide) (by decide)])
    have j0 : I 64 (0 : Int32).toNatClampNeg = I0 13 0 := i0.trans (by rw [fI.1 13 (by decide) (by decide)])
    have j1 : I 64 (1 : Int32).toNatClampNeg = I0 14 0 := i1.trans (by rw [fI.1 14 (by decide) (by decide)])
    have ei : nI y + (1) = nI (y + 1) := nI_1 _
    have f84 : ¬ nI N ≤ nI y := nI_ge (by omega) (by omega)
    refine iX12_drawn_78 (iX12_drawn_80 (iX12_drawn_81 (iX12_drawn_83 (by decide) ?_)))
    rw [hnN]
    refine iX12_drawn_84 (fun h84 => absurd h84 (f84)) (fun h84 => ?_)
    refine iX12_drawn_87 (iX12_drawn_88 (iX12_drawn_91 (iX12_drawn_92 (vin 4 (by decide) (by decide) (by decide)) ?_)))
    rw [j0]
    refine iX12_drawn_93 (iX12_drawn_95 (iX12_drawn_96 (iX12_drawn_99 (iX12_drawn_100 (vin 4 (by decide) (by decide) (by decide)) ?_))))
    rw [j1]
    refine iX12_drawn_101 (iX12_drawn_103 (iX12_drawn_104 (iX12_drawn_107 (iX12_drawn_108 (vin 4 (by decide) (by decide) (by decide)) ?_))))
    rw [j2]
    refine iX12_drawn_109 (iX12_drawn_111 (iX12_drawn_112 ?_))
    refine m_dLoop h hA hnb A 0 (fun k x hk => by rw [Nat.zero_add]; exact hk) (by omega) (p.1, p.2, I0 13 0, I0 14 0, I0 15 0) I a12 hI hAg (fun I2 a12 hI2 => ?_)
    refine iX12_drawn_264 (iX12_drawn_267 ?_)
    rw [ei]
    exact ih (y + 1) (by omega) ((dRun I0 ls births bill A (p.1, p.2, I0 13 0, I0 14 0, I0 15 0)).1, (dRun I0 ls births bill A (p.1, p.2, I0 13 0, I0 14 0, I0 15 0)).2.1) I2 _ _ _ _ _ hI2
end
theorem pp_drawn : PP_drawn Inv := by
  intro I J h seed s nb bill
  obtain ⟨nB, nS, ls, w⟩ := Wd.of h
  by_cases hs : f_in s 0 5 = 0
  · refine pair_q (v := -1) h ?_ (fun i j hi hj => ?_)
    · refine spec_of (L := [some (.ref 0), some (.int seed), some (.int s), some (.int nb), some (.int bill), none, none]) (by decide) (Nat.le_of_ble_eq_true rfl) rfl ?_
      refine iX11_drawn_0 (iX11_drawn_2 (iX11_drawn_3 (fun h3 => ?_) (fun h3 => ?_)))
      · refine iX11_drawn_19 (iX11_drawn_20 (iX11_drawn_24 (iX11_drawn_26 (iX11_drawn_27 (iX11_drawn_28 (s_X11_isShelf _) (iX11_drawn_31 (fun h31 => ?_) (fun h31 => by first | exact absurd (hs) h31 | exact absurd h31 (hs))))))))
        refine iX11_drawn_61 (iX11_drawn_62 ?_)
        exact ⟨rfl, rfl, Fq.rf, Fj.rf⟩
      · refine iX11_drawn_6 (iX11_drawn_7 (iX11_drawn_10 (iX11_drawn_12 (iX11_drawn_13 (s_X5_has _ _) (iX11_drawn_16 (fun h16 => ?_) (fun h16 => ?_))))))
        · refine iX11_drawn_23 (iX11_drawn_24 (iX11_drawn_26 (iX11_drawn_27 (iX11_drawn_28 (s_X11_isShelf _) (iX11_drawn_31 (fun h31 => ?_) (fun h31 => by first | exact absurd (hs) h31 | exact absurd h31 (hs)))))))
          refine iX11_drawn_61 (iX11_drawn_62 ?_)
          exact ⟨rfl, rfl, Fq.rf, Fj.rf⟩
        · refine iX11_drawn_19 (iX11_drawn_20 (iX11_drawn_24 (iX11_drawn_26 (iX11_drawn_27 (iX11_drawn_28 (s_X11_isShelf _) (iX11_drawn_31 (fun h31 => ?_) (fun h31 => by first | exact absurd (hs) h31 | exact absurd h31 (hs))))))))
          refine iX11_drawn_61 (iX11_drawn_62 ?_)
          exact ⟨rfl, rfl, Fq.rf, Fj.rf⟩
    · refine spec_of (L := [some (.ref 57), some (.int seed), some (.int s), some (.int nb), some (.int bill), none, none, none, none, none, none, none, none]) (by decide) (Nat.le_of_ble_eq_true rfl) rfl ?_
      refine iX12_drawn_0 (iX12_drawn_1 (s_X12_isShelf _) (iX12_drawn_4 (fun h4 => ?_) (fun h4 => by first | exact absurd (hs) h4 | exact absurd h4 (hs))))
      refine iX12_drawn_48 (iX12_drawn_49 ?_)
      exact ⟨rfl, rfl, Fq.rf, Fj.rf⟩
  by_cases hbl : ¬ bill = -1 ∧ f_has I bill 0 = 0
  · refine pair_q (v := -1) h ?_ (fun i j hi hj => ?_)
    · refine spec_of (L := [some (.ref 0), some (.int seed), some (.int s), some (.int nb), some (.int bill), none, none]) (by decide) (Nat.le_of_ble_eq_true rfl) rfl ?_
      refine iX11_drawn_0 (iX11_drawn_2 (iX11_drawn_3 (fun h3 => absurd h3 (hbl.1)) (fun h3 => ?_)))
      refine iX11_drawn_6 (iX11_drawn_7 (iX11_drawn_10 (iX11_drawn_12 (iX11_drawn_13 (s_X5_has _ _) (iX11_drawn_16 (fun h16 => ?_) (fun h16 => by first | exact absurd (hbl.2) h16 | exact absurd h16 (hbl.2)))))))
      refine iX11_drawn_23 (iX11_drawn_24 (iX11_drawn_26 (iX11_drawn_27 (iX11_drawn_28 (s_X11_isShelf _) (iX11_drawn_31 (fun h31 => absurd h31 (hs)) (fun h31 => ?_))))))
      refine iX11_drawn_34 (iX11_drawn_36 (fun h36 => ?_) (fun h36 => by first | exact absurd (rfl) h36 | exact absurd h36 (rfl)))
      refine iX11_drawn_61 (iX11_drawn_62 ?_)
      exact ⟨rfl, rfl, Fq.rf, Fj.rf⟩
    · refine spec_of (L := [some (.ref 57), some (.int seed), some (.int s), some (.int nb), some (.int bill), none, none, none, none, none, none, none, none]) (by decide) (Nat.le_of_ble_eq_true rfl) rfl ?_
      refine iX12_drawn_0 (iX12_drawn_1 (s_X12_isShelf _) (iX12_drawn_4 (fun h4 => absurd h4 (hs)) (fun h4 => ?_)))
      refine iX12_drawn_7 (iX12_drawn_8 (fun h8 => ?_) (fun h8 => ?_))
      · refine iX12_drawn_48 (iX12_drawn_49 ?_)
        exact ⟨rfl, rfl, Fq.rf, Fj.rf⟩
      · refine iX12_drawn_11 (iX12_drawn_12 (iX12_drawn_14 (by decide) (iX12_drawn_15 (iX12_drawn_16 (iX12_drawn_18 (s_X12_in _ _ _) (iX12_drawn_21 (fun h21 => ?_) (fun h21 => ?_)))))))
        · refine iX12_drawn_48 (iX12_drawn_49 ?_)
          exact ⟨rfl, rfl, Fq.rf, Fj.rf⟩
        · refine iX12_drawn_24 (iX12_drawn_25 (iX12_drawn_27 (by decide) (iX12_drawn_28 (iX12_drawn_30 (fun h30 => ?_) (fun h30 => ?_)))))
          · refine iX12_drawn_48 (iX12_drawn_49 ?_)
            exact ⟨rfl, rfl, Fq.rf, Fj.rf⟩
          · refine iX12_drawn_33 (iX12_drawn_35 (iX12_drawn_36 (fun h36 => absurd h36 (hbl.1)) (fun h36 => ?_)))
            refine iX12_drawn_39 (iX12_drawn_40 (iX12_drawn_42 (s_X12_isBill _) ?_))
            rw [hb_in (w.fr hi), f_has_fr hi]
            refine iX12_drawn_45 (fun h45 => absurd h45 (fun z => z hbl.2)) (fun h45 => ?_)
            refine iX12_drawn_48 (iX12_drawn_49 ?_)
            exact ⟨rfl, rfl, Fq.rf, Fj.rf⟩
  have hB1 : bill = -1 ∨ ¬ f_has I bill 0 = 0 := by
    by_cases z : bill = -1
    · exact Or.inl z
    · exact Or.inr (fun y => hbl ⟨z, y⟩)
  by_cases hnb : nb < 0 ∨ f_in (nb / 100) 1 30 = 0 ∨ 12 < nb - nb / 100 * 100
  · have hc : nb < 100 ∨ 3012 < nb ∨ ¬ nb - nb / 100 * 100 ≤ 12 := by
      rcases hnb with z | z | z
      · exact Or.inl (Int32.lt_trans z (by decide))
      · by_cases z0 : nb < 0
        · exact Or.inl (Int32.lt_trans z0 (by decide))
        obtain ⟨n, hn, rfl⟩ := nI_of (x := nb) z0
        have ed : nI n / 100 = nI (n / 100) := pk_div (d := 100) hn (by omega) (by omega)
        rw [ed] at z
        have z := f_in_n z
        rcases z with z | z
        · have := (nI_ltI (a := n / 100) (b := 1) (by omega) (by omega)).mp z
          exact Or.inl (nI_lt (b := 100) (by omega) (by omega))
        · have := (nI_ltI (a := 30) (b := n / 100) (by omega) (by omega)).mp z
          exact Or.inr (Or.inl (nI_lt (a := 3012) (by omega) (by omega)))
      · exact Or.inr (Or.inr (Int32.not_le.mpr z))
    refine pair_q (v := -1) h ?_ (fun i j hi hj => ?_)
    · refine spec_of (L := [some (.ref 0), some (.int seed), some (.int s), some (.int nb), some (.int bill), none, none]) (by decide) (Nat.le_of_ble_eq_true rfl) rfl ?_
      refine iX11_drawn_0 (iX11_drawn_2 (iX11_drawn_3 (fun h3 => ?_) (fun h3 => ?_)))
      · refine iX11_drawn_19 (iX11_drawn_20 (iX11_drawn_24 (iX11_drawn_26 (iX11_drawn_27 (iX11_drawn_28 (s_X11_isShelf _) (iX11_drawn_31 (fun h31 => absurd h31 (hs)) (fun h31 => ?_)))))))
        refine iX11_drawn_34 (iX11_drawn_36 (fun h36 => ?_) (fun h36 => ?_))
        · refine iX11_drawn_61 (iX11_drawn_62 ?_)
          exact ⟨rfl, rfl, Fq.rf, Fj.rf⟩
        · refine iX11_drawn_39 (iX11_drawn_40 (iX11_drawn_42 (fun h42 => ?_) (fun h42 => ?_)))
          · refine iX11_drawn_61 (iX11_drawn_62 ?_)
            exact ⟨rfl, rfl, Fq.rf, Fj.rf⟩
          · refine iX11_drawn_45 (iX11_drawn_46 (iX11_drawn_49 (fun h49 => ?_) (fun h49 => ?_)))
            · refine iX11_drawn_61 (iX11_drawn_62 ?_)
              exact ⟨rfl, rfl, Fq.rf, Fj.rf⟩
            · refine iX11_drawn_52 (iX11_drawn_53 (iX11_drawn_55 (by decide) (iX11_drawn_56 (iX11_drawn_58 (fun h58 => ?_) (fun h58 => ?_)))))
              · exfalso
                rcases hc with z | z | z
                · exact h42 z
                · exact h49 z
                · exact z h58
              · refine iX11_drawn_61 (iX11_drawn_62 ?_)
                exact ⟨rfl, rfl, Fq.rf, Fj.rf⟩
      · refine iX11_drawn_6 (iX11_drawn_7 (iX11_drawn_10 (iX11_drawn_12 (iX11_drawn_13 (s_X5_has _ _) (iX11_drawn_16 (fun h16 => ?_) (fun h16 => ?_))))))
        · refine iX11_drawn_23 (iX11_drawn_24 (iX11_drawn_26 (iX11_drawn_27 (iX11_drawn_28 (s_X11_isShelf _) (iX11_drawn_31 (fun h31 => absurd h31 (hs)) (fun h31 => ?_))))))
          refine iX11_drawn_34 (iX11_drawn_36 (fun h36 => ?_) (fun h36 => ?_))
          · refine iX11_drawn_61 (iX11_drawn_62 ?_)
            exact ⟨rfl, rfl, Fq.rf, Fj.rf⟩
          · refine iX11_drawn_39 (iX11_drawn_40 (iX11_drawn_42 (fun h42 => ?_) (fun h42 => ?_)))
            · refine iX11_drawn_61 (iX11_drawn_62 ?_)
              exact ⟨rfl, rfl, Fq.rf, Fj.rf⟩
            · refine iX11_drawn_45 (iX11_drawn_46 (iX11_drawn_49 (fun h49 => ?_) (fun h49 => ?_)))
              · refine iX11_drawn_61 (iX11_drawn_62 ?_)
                exact ⟨rfl, rfl, Fq.rf, Fj.rf⟩
              · refine iX11_drawn_52 (iX11_drawn_53 (iX11_drawn_55 (by decide) (iX11_drawn_56 (iX11_drawn_58 (fun h58 => ?_) (fun h58 => ?_)))))
                · exfalso
                  rcases hc with z | z | z
                  · exact h42 z
                  · exact h49 z
                  · exact z h58
                · refine iX11_drawn_61 (iX11_drawn_62 ?_)
                  exact ⟨rfl, rfl, Fq.rf, Fj.rf⟩
        · refine iX11_drawn_19 (iX11_drawn_20 (iX11_drawn_24 (iX11_drawn_26 (iX11_drawn_27 (iX11_drawn_28 (s_X11_isShelf _) (iX11_drawn_31 (fun h31 => absurd h31 (hs)) (fun h31 => ?_)))))))
          refine iX11_drawn_34 (iX11_drawn_36 (fun h36 => ?_) (fun h36 => ?_))
          · refine iX11_drawn_61 (iX11_drawn_62 ?_)
            exact ⟨rfl, rfl, Fq.rf, Fj.rf⟩
          · refine iX11_drawn_39 (iX11_drawn_40 (iX11_drawn_42 (fun h42 => ?_) (fun h42 => ?_)))
            · refine iX11_drawn_61 (iX11_drawn_62 ?_)
              exact ⟨rfl, rfl, Fq.rf, Fj.rf⟩
            · refine iX11_drawn_45 (iX11_drawn_46 (iX11_drawn_49 (fun h49 => ?_) (fun h49 => ?_)))
              · refine iX11_drawn_61 (iX11_drawn_62 ?_)
                exact ⟨rfl, rfl, Fq.rf, Fj.rf⟩
              · refine iX11_drawn_52 (iX11_drawn_53 (iX11_drawn_55 (by decide) (iX11_drawn_56 (iX11_drawn_58 (fun h58 => ?_) (fun h58 => ?_)))))
                · exfalso
                  rcases hc with z | z | z
                  · exact h42 z
                  · exact h49 z
                  · exact z h58
                · refine iX11_drawn_61 (iX11_drawn_62 ?_)
                  exact ⟨rfl, rfl, Fq.rf, Fj.rf⟩
    · refine spec_of (L := [some (.ref 57), some (.int seed), some (.int s), some (.int nb), some (.int bill), none, none, none, none, none, none, none, none]) (by decide) (Nat.le_of_ble_eq_true rfl) rfl ?_
      refine iX12_drawn_0 (iX12_drawn_1 (s_X12_isShelf _) (iX12_drawn_4 (fun h4 => absurd h4 (hs)) (fun h4 => ?_)))
      refine iX12_drawn_7 (iX12_drawn_8 (fun h8 => ?_) (fun h8 => ?_))
      · refine iX12_drawn_48 (iX12_drawn_49 ?_)
        exact ⟨rfl, rfl, Fq.rf, Fj.rf⟩
      · refine iX12_drawn_11 (iX12_drawn_12 (iX12_drawn_14 (by decide) (iX12_drawn_15 (iX12_drawn_16 (iX12_drawn_18 (s_X12_in _ _ _) (iX12_drawn_21 (fun h21 => ?_) (fun h21 => ?_)))))))
        · refine iX12_drawn_48 (iX12_drawn_49 ?_)
          exact ⟨rfl, rfl, Fq.rf, Fj.rf⟩
        · refine iX12_drawn_24 (iX12_drawn_25 (iX12_drawn_27 (by decide) (iX12_drawn_28 (iX12_drawn_30 (fun h30 => ?_) (fun h30 => ?_)))))
          · refine iX12_drawn_48 (iX12_drawn_49 ?_)
            exact ⟨rfl, rfl, Fq.rf, Fj.rf⟩
          · refine iX12_drawn_33 (iX12_drawn_35 (iX12_drawn_36 (fun h36 => ?_) (fun h36 => ?_)))
            · exfalso
              rcases hnb with z | z | z
              · exact h8 z
              · exact h21 z
              · exact h30 z
            · refine iX12_drawn_39 (iX12_drawn_40 (iX12_drawn_42 (s_X12_isBill _) (iX12_drawn_45 (fun h45 => ?_) (fun h45 => ?_))))
              · exfalso
                rcases hnb with z | z | z
                · exact h8 z
                · exact h21 z
                · exact h30 z
              · refine iX12_drawn_48 (iX12_drawn_49 ?_)
                exact ⟨rfl, rfl, Fq.rf, Fj.rf⟩
  have z0 : ¬ nb < 0 := fun z => hnb (Or.inl z)
  have z1 : ¬ f_in (nb / 100) 1 30 = 0 := fun z => hnb (Or.inr (Or.inl z))
  have z2 : ¬ 12 < nb - nb / 100 * 100 := fun z => hnb (Or.inr (Or.inr z))
  obtain ⟨n, hn, rfl⟩ := nI_of (x := nb) z0
  have ed : nI n / 100 = nI (n / 100) := pk_div (d := 100) hn (by omega) (by omega)
  have er : nI n - nI n / 100 * 100 = nI (n % 100) := pk_rem (d := 100) hn (by omega) (by omega)
  have z3 := f_in_p z1
  rw [ed] at z3
  have y1 := (nI_leI (a := 1) (b := n / 100) (by omega) (by omega)).mp z3.1
  have y2 := (nI_leI (a := n / 100) (b := 30) (by omega) (by omega)).mp z3.2
  have y3 : n % 100 ≤ 12 := by
    rw [er] at z2
    have := mt (nI_lt (a := 12) (b := n % 100) · (by omega)) z2
    omega
  have n42 : ¬ nI n < 100 := nI_nlt (b := 100) (a := n) (by omega) (by omega)
  have n49 : ¬ (3012 : Int32) < nI n := nI_nlt (b := n) (a := 3012) (by omega) (by omega)
  have n58 : nI n - nI n / 100 * 100 ≤ 12 := Int32.not_lt.mp z2
  obtain ⟨k, hk, rfl⟩ := shelf_of hs
  have hsx := xSh_at hk
  have hvs : vp_in (nI k) 6 := vp_in_nI hk (by omega)
  have hka : xr xG1 44 (nI k).toNatClampNeg = some (45 + 2 * k) := by rw [nI_clamp (by omega)]; exact (shelf_at hk).1
  by_cases hr : f_refB I (45 + 2 * k) = 0
  · obtain ⟨L, Bf, R⟩ := Rw.of h hk hr
    refine pair_q (v := dYears I ls (nI (n % 100)) bill (agL Bf L nB nS 10 0) (n / 100) (seed, 0)) h ?_ (fun i j hi hj => ?_)
    · refine spec_of (L := [some (.ref 0), some (.int seed), some (.int (nI k)), some (.int (nI n)), some (.int bill), none, none]) (by decide) (Nat.le_of_ble_eq_true rfl) rfl ?_
      have st := s_X0_take w R
      have tail : ∀ I1, xFr [25, 26] I I1 → AgC I1 (agL Bf L nB nS 10 0) → ∀ a5 a6, WP 1000 (1000000, 0, 0) none M_X11_drawn (fun r g i j => r = some (.int (dYears I ls (nI (n % 100)) bill (agL Bf L nB nS 10 0) (n / 100) (seed, 0))) ∧ g = xG1 ∧ Fq I i ∧ Fj J j) 95 [some (.ref 0), some (.int seed), some (.int (nI k)), some (.int (nI n)), some (.int bill), a5, a6] [] xG1 I1 J := by
        intro I1 h1 hA a5 a6
        have f1 := Fq.of h1 (by decide)
        have sd := s_X0_drawnYears (J := J) (w.fr f1) ag_ok hA (births := nI (n % 100)) (bill := bill) (seed := seed) (N := n / 100) y2
        rw [dYears_fr f1] at sd
        refine iX11_drawn_95 (iX11_drawn_96 (iX11_drawn_99 (iX11_drawn_100 (iX11_drawn_101 (iX11_drawn_103 (by decide) (iX11_drawn_104 (iX11_drawn_105 (iX11_drawn_107 (by decide) (iX11_drawn_108 ?_)))))))))
        rw [er, ed]
        refine jX11_drawn_110 sd (fun r110 g110 I110 J110 hq => ?_)
        obtain ⟨rfl, rfl, hq3, rfl⟩ := hq
        refine iX11_drawn_113 ?_
        exact ⟨rfl, rfl, f1.tr (Fq.of hq3 (by decide)), Fj.rf⟩
      refine iX11_drawn_0 (iX11_drawn_2 (iX11_drawn_3 (fun h3 => ?_) (fun h3 => ?_)))
      · refine iX11_drawn_19 (iX11_drawn_20 (iX11_drawn_24 (iX11_drawn_26 (iX11_drawn_27 (iX11_drawn_28 (s_X11_isShelf _) (iX11_drawn_31 (fun h31 => absurd h31 (hs)) (fun h31 => ?_)))))))
        refine iX11_drawn_34 (iX11_drawn_36 (fun h36 => absurd h36 ((by decide : ¬ (1 : Int32) = 0))) (fun h36 => ?_))
        refine iX11_drawn_39 (iX11_drawn_40 (iX11_drawn_42 (fun h42 => absurd h42 (n42)) (fun h42 => ?_)))
        refine iX11_drawn_45 (iX11_drawn_46 (iX11_drawn_49 (fun h49 => absurd h49 (n49)) (fun h49 => ?_)))
        refine iX11_drawn_52 (iX11_drawn_53 (iX11_drawn_55 (by decide) (iX11_drawn_56 (iX11_drawn_58 (fun h58 => ?_) (fun h58 => by first | exact absurd (n58) h58 | exact absurd h58 (n58))))))
        refine iX11_drawn_63 (iX11_drawn_64 (iX11_drawn_67 (iX11_drawn_68 hvs hka (iX11_drawn_69 hsx.1 (s_X9_refusalOfBytes hsx) (iX11_drawn_72 (iX11_drawn_74 (iX11_drawn_76 (fun h76 => ?_) (fun h76 => by first | exact absurd (hr) h76 | exact absurd h76 (hr)))))))))
        refine iX11_drawn_82 (iX11_drawn_83 (iX11_drawn_86 (iX11_drawn_87 (iX11_drawn_90 (iX11_drawn_91 hvs hka (jX11_drawn_92 st (fun r92 g92 I92 J92 hq => ?_)))))))
        obtain ⟨rfl, rfl, hq3, rfl, hq5⟩ := hq
        exact tail _ hq3 hq5 _ _
      · refine iX11_drawn_6 (iX11_drawn_7 (iX11_drawn_10 (iX11_drawn_12 (iX11_drawn_13 (s_X5_has _ _) (iX11_drawn_16 (fun h16 => ?_) (fun h16 => ?_))))))
        · exfalso
          grind
        · refine iX11_drawn_19 (iX11_drawn_20 (iX11_drawn_24 (iX11_drawn_26 (iX11_drawn_27 (iX11_drawn_28 (s_X11_isShelf _) (iX11_drawn_31 (fun h31 => absurd h31 (hs)) (fun h31 => ?_)))))))
          refine iX11_drawn_34 (iX11_drawn_36 (fun h36 => absurd h36 ((by decide : ¬ (1 : Int32) = 0))) (fun h36 => ?_))
          refine iX11_drawn_39 (iX11_drawn_40 (iX11_drawn_42 (fun h42 => absurd h42 (n42)) (fun h42 => ?_)))
          refine iX11_drawn_45 (iX11_drawn_46 (iX11_drawn_49 (fun h49 => absurd h49 (n49)) (fun h49 => ?_)))
          refine iX11_drawn_52 (iX11_drawn_53 (iX11_drawn_55 (by decide) (iX11_drawn_56 (iX11_drawn_58 (fun h58 => ?_) (fun h58 => by first | exact absurd (n58) h58 | exact absurd h58 (n58))))))
          refine iX11_drawn_63 (iX11_drawn_64 (iX11_drawn_67 (iX11_drawn_68 hvs hka (iX11_drawn_69 hsx.1 (s_X9_refusalOfBytes hsx) (iX11_drawn_72 (iX11_drawn_74 (iX11_drawn_76 (fun h76 => ?_) (fun h76 => by first | exact absurd (hr) h76 | exact absurd h76 (hr)))))))))
          refine iX11_drawn_82 (iX11_drawn_83 (iX11_drawn_86 (iX11_drawn_87 (iX11_drawn_90 (iX11_drawn_91 hvs hka (jX11_drawn_92 st (fun r92 g92 I92 J92 hq => ?_)))))))
          obtain ⟨rfl, rfl, hq3, rfl, hq5⟩ := hq
          exact tail _ hq3 hq5 _ _
    · have wi := w.fr hi
      have R2 := R.fr hi hj
      have hinv := inv_scr h hi hj
      have srf := s_X12_rowFault hinv hk
      rw [refB_fr hk hi, hr] at srf
      have st := s_X12_layAgenda wi R2
      refine spec_of (L := [some (.ref 57), some (.int seed), some (.int (nI k)), some (.int (nI n)), some (.int bill), none, none, none, none, none, none, none, none]) (by decide) (Nat.le_of_ble_eq_true rfl) rfl ?_
      have tail : WP 1000 (1000000, 0, 0) none M_X12_drawn (fun r g i' j' => r = some (.int (dYears I ls (nI (n % 100)) bill (agL Bf L nB nS 10 0) (n / 100) (seed, 0))) ∧ g = xG1 ∧ Fq i i' ∧ Fj j j') 50 [some (.ref 57), some (.int seed), some (.int (nI k)), some (.int (nI n)), some (.int bill), none, none, none, none, none, none, none, none] [] xG1 i j := by
        refine iX12_drawn_50 (iX12_drawn_51 (iX12_drawn_52 srf (iX12_drawn_55 (fun h55 => ?_) (fun h55 => by first | exact absurd (Int32.le_refl _) h55 | exact absurd h55 (Int32.le_refl _)))))
        refine iX12_drawn_64 (iX12_drawn_65 (jX12_drawn_66 st (fun r66 g66 I66 J66 hq => ?_)))
        obtain ⟨rfl, rfl, hq3, rfl, hq5⟩ := hq
        have key := m_dYears (J := J66) (wi.fr hq3) ag_ok hq5 (bill := bill) (x1 := seed) (x2 := nI k) er y2 ed (n / 100) 0 (by omega) (seed, 0) I66 none none none none none xFr.rf
        rw [dYears_fr (hi.tr hq3)] at key
        refine iX12_drawn_69 (iX12_drawn_70 (iX12_drawn_72 (iX12_drawn_73 (iX12_drawn_75 (iX12_drawn_76 ?_)))))
        exact WP_Q key (fun r g i1 j1 ⟨p1, p2, p3, p4⟩ => ⟨p1, p2, hq3.tr (Fq.of p3 (by decide)), by rw [p4]; exact Fj.rf⟩)
      refine iX12_drawn_0 (iX12_drawn_1 (s_X12_isShelf _) (iX12_drawn_4 (fun h4 => absurd h4 (hs)) (fun h4 => ?_)))
      refine iX12_drawn_7 (iX12_drawn_8 (fun h8 => absurd h8 (z0)) (fun h8 => ?_))
      refine iX12_drawn_11 (iX12_drawn_12 (iX12_drawn_14 (by decide) (iX12_drawn_15 (iX12_drawn_16 (iX12_drawn_18 (s_X12_in _ _ _) (iX12_drawn_21 (fun h21 => absurd h21 (z1)) (fun h21 => ?_)))))))
      refine iX12_drawn_24 (iX12_drawn_25 (iX12_drawn_27 (by decide) (iX12_drawn_28 (iX12_drawn_30 (fun h30 => absurd h30 (z2)) (fun h30 => ?_)))))
      refine iX12_drawn_33 (iX12_drawn_35 (iX12_drawn_36 (fun h36 => ?_) (fun h36 => ?_)))
      · exact tail
      · refine iX12_drawn_39 (iX12_drawn_40 (iX12_drawn_42 (s_X12_isBill _) ?_))
        rw [hb_in wi, f_has_fr hi]
        refine iX12_drawn_45 (fun h45 => ?_) (fun h45 => ?_)
        · exact tail
        · exfalso
          grind
  · refine pair_q (v := f_refB I (45 + 2 * k)) h ?_ (fun i j hi hj => ?_)
    · refine spec_of (L := [some (.ref 0), some (.int seed), some (.int (nI k)), some (.int (nI n)), some (.int bill), none, none]) (by decide) (Nat.le_of_ble_eq_true rfl) rfl ?_
      refine iX11_drawn_0 (iX11_drawn_2 (iX11_drawn_3 (fun h3 => ?_) (fun h3 => ?_)))
      · refine iX11_drawn_19 (iX11_drawn_20 (iX11_drawn_24 (iX11_drawn_26 (iX11_drawn_27 (iX11_drawn_28 (s_X11_isShelf _) (iX11_drawn_31 (fun h31 => absurd h31 (hs)) (fun h31 => ?_)))))))
        refine iX11_drawn_34 (iX11_drawn_36 (fun h36 => absurd h36 ((by decide : ¬ (1 : Int32) = 0))) (fun h36 => ?_))
        refine iX11_drawn_39 (iX11_drawn_40 (iX11_drawn_42 (fun h42 => absurd h42 (n42)) (fun h42 => ?_)))
        refine iX11_drawn_45 (iX11_drawn_46 (iX11_drawn_49 (fun h49 => absurd h49 (n49)) (fun h49 => ?_)))
        refine iX11_drawn_52 (iX11_drawn_53 (iX11_drawn_55 (by decide) (iX11_drawn_56 (iX11_drawn_58 (fun h58 => ?_) (fun h58 => by first | exact absurd (n58) h58 | exact absurd h58 (n58))))))
        refine iX11_drawn_63 (iX11_drawn_64 (iX11_drawn_67 (iX11_drawn_68 hvs hka (iX11_drawn_69 hsx.1 (s_X9_refusalOfBytes hsx) (iX11_drawn_72 (iX11_drawn_74 (iX11_drawn_76 (fun h76 => absurd h76 (hr)) (fun h76 => ?_))))))))
        refine iX11_drawn_79 (iX11_drawn_81 ?_)
        exact ⟨rfl, rfl, Fq.rf, Fj.rf⟩
      · refine iX11_drawn_6 (iX11_drawn_7 (iX11_drawn_10 (iX11_drawn_12 (iX11_drawn_13 (s_X5_has _ _) (iX11_drawn_16 (fun h16 => ?_) (fun h16 => ?_))))))
        · exfalso
          grind
        · refine iX11_drawn_19 (iX11_drawn_20 (iX11_drawn_24 (iX11_drawn_26 (iX11_drawn_27 (iX11_drawn_28 (s_X11_isShelf _) (iX11_drawn_31 (fun h31 => absurd h31 (hs)) (fun h31 => ?_)))))))
          refine iX11_drawn_34 (iX11_drawn_36 (fun h36 => absurd h36 ((by decide : ¬ (1 : Int32) = 0))) (fun h36 => ?_))
          refine iX11_drawn_39 (iX11_drawn_40 (iX11_drawn_42 (fun h42 => absurd h42 (n42)) (fun h42 => ?_)))
          refine iX11_drawn_45 (iX11_drawn_46 (iX11_drawn_49 (fun h49 => absurd h49 (n49)) (fun h49 => ?_)))
          refine iX11_drawn_52 (iX11_drawn_53 (iX11_drawn_55 (by decide) (iX11_drawn_56 (iX11_drawn_58 (fun h58 => ?_) (fun h58 => by first | exact absurd (n58) h58 | exact absurd h58 (n58))))))
          refine iX11_drawn_63 (iX11_drawn_64 (iX11_drawn_67 (iX11_drawn_68 hvs hka (iX11_drawn_69 hsx.1 (s_X9_refusalOfBytes hsx) (iX11_drawn_72 (iX11_drawn_74 (iX11_drawn_76 (fun h76 => absurd h76 (hr)) (fun h76 => ?_))))))))
          refine iX11_drawn_79 (iX11_drawn_81 ?_)
          exact ⟨rfl, rfl, Fq.rf, Fj.rf⟩
    · have srf := s_X12_rowFault (inv_scr h hi hj) hk
      rw [refB_fr hk hi] at srf
      have n23 : ¬ 0 ≤ f_refB I (45 + 2 * k) := by
        rcases refB_cases (I := I) (a := 45 + 2 * k) with e | e | e
        · exact absurd e hr
        · rw [e]; decide
        · rw [e]; decide
      refine spec_of (L := [some (.ref 57), some (.int seed), some (.int (nI k)), some (.int (nI n)), some (.int bill), none, none, none, none, none, none, none, none]) (by decide) (Nat.le_of_ble_eq_true rfl) rfl ?_
      refine iX12_drawn_0 (iX12_drawn_1 (s_X12_isShelf _) (iX12_drawn_4 (fun h4 => absurd h4 (hs)) (fun h4 => ?_)))
      refine iX12_drawn_7 (iX12_drawn_8 (fun h8 => absurd h8 (z0)) (fun h8 => ?_))
      refine iX12_drawn_11 (iX12_drawn_12 (iX12_drawn_14 (by decide) (iX12_drawn_15 (iX12_drawn_16 (iX12_drawn_18 (s_X12_in _ _ _) (iX12_drawn_21 (fun h21 => absurd h21 (z1)) (fun h21 => ?_)))))))
      refine iX12_drawn_24 (iX12_drawn_25 (iX12_drawn_27 (by decide) (iX12_drawn_28 (iX12_drawn_30 (fun h30 => absurd h30 (z2)) (fun h30 => ?_)))))
      refine iX12_drawn_33 (iX12_drawn_35 (iX12_drawn_36 (fun h36 => ?_) (fun h36 => ?_)))
      · refine iX12_drawn_50 (iX12_drawn_51 (iX12_drawn_52 srf (iX12_drawn_55 (fun h55 => absurd h55 (n23)) (fun h55 => ?_))))
        refine iX12_drawn_58 (iX12_drawn_59 (iX12_drawn_60 srf (iX12_drawn_63 ?_)))
        exact ⟨rfl, rfl, Fq.rf, Fj.rf⟩
      · refine iX12_drawn_39 (iX12_drawn_40 (iX12_drawn_42 (s_X12_isBill _) ?_))
        rw [hb_in (w.fr hi), f_has_fr hi]
        refine iX12_drawn_45 (fun h45 => ?_) (fun h45 => ?_)
        · refine iX12_drawn_50 (iX12_drawn_51 (iX12_drawn_52 srf (iX12_drawn_55 (fun h55 => absurd h55 (n23)) (fun h55 => ?_))))
          refine iX12_drawn_58 (iX12_drawn_59 (iX12_drawn_60 srf (iX12_drawn_63 ?_)))
          exact ⟨rfl, rfl, Fq.rf, Fj.rf⟩
        · exfalso
          grind
