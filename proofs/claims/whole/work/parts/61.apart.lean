/-! ===== which reading tells two teeth apart ===== -/
theorem WP_Q {d : Nat} {b : xB} {sc : xSn} {M : xM} {Q Q' : xP} {pc : Nat} {L : List (Option Value)} {st : List Value} {g : xG} {I : xI} {J : xJ} (h : WP d b sc M Q pc L st g I J) (hQ : ∀ r g I J, Q r g I J → Q' r g I J) : WP d b sc M Q' pc L st g I J := by
  intro p l e R s m args below meth c D cA ad0 ad A mc ms Qw H locs cells slots ls h1 h2 h3
  exact h p l e R s m args below meth c D cA ad0 ad A mc ms Qw H locs cells slots ls h1 h2 (fun v g I J ad H locs cells slots ls pc hq => h3 v g I J ad H locs cells slots ls pc (hQ _ _ _ _ hq))
def dst (x y : Nat) : Nat := if x < y then y - x else x - y
theorem dst_facts {x y : Nat} (hx : x ≤ 12) (hy : y ≤ 12) : f_abs (nI x - nI y) = nI (dst x y) ∧ (nI x - nI y < 0 → -(nI x - nI y) = nI (dst x y)) ∧ (¬ nI x - nI y < 0 → nI x - nI y = nI (dst x y)) ∧ dst x y ≤ 12 := by
  have : ∀ x : Nat, x < 13 → ∀ y : Nat, y < 13 → f_abs (nI x - nI y) = nI (dst x y) ∧ (nI x - nI y < 0 → -(nI x - nI y) = nI (dst x y)) ∧ (¬ nI x - nI y < 0 → nI x - nI y = nI (dst x y)) ∧ dst x y ≤ 12 := by decide +kernel
  exact this x (by omega) y (by omega)
noncomputable def dif (I : xI) (ls : lwT) (a c b s : Nat) : Nat := dst (cyN I ls (f_min 95 (I 15 0 + I 7 b)) (nI a) (I 14 0) b s) (cyN I ls (f_min 95 (I 15 0 + I 7 b)) (nI c) (I 14 0) b s)
theorem dif_le {I : xI} {ls : lwT} {a c b s : Nat} : dif I ls a c b s ≤ 12 := (dst_facts cyN_le cyN_le).2.2.2
theorem dif_fr {I I' : xI} (h : Fq I I') {ls : lwT} {a c b s : Nat} : dif I' ls a c b s = dif I ls a c b s := by
  unfold dif
  rw [cyN_fr h, cyN_fr h, h.1 15 (by decide) (by decide), h.1 7 (by decide) (by decide), h.1 14 (by decide) (by decide)]
def apt (nS : Nat) (D : Nat → Nat → Nat) : Nat → Option Nat × Nat
  | 0 => (none, 0)
  | k + 1 => if k % 10 < nS ∧ (apt nS D k).2 < D (k / 10) (k % 10) then (some k, D (k / 10) (k % 10)) else apt nS D k
theorem apt_le {nS : Nat} {D : Nat → Nat → Nat} (h : ∀ b s, D b s ≤ 12) : ∀ k : Nat, (apt nS D k).2 ≤ 12 ∧ ∀ y, (apt nS D k).1 = some y → y < k
  | 0 => ⟨by simp [apt], fun y hy => by simp [apt] at hy⟩
  | k + 1 => by
    obtain ⟨h1, h2⟩ := apt_le h k
    by_cases q : k % 10 < nS ∧ (apt nS D k).2 < D (k / 10) (k % 10)
    · simp only [apt, if_pos q]
      exact ⟨h _ _, fun y hy => by cases hy; omega⟩
    · simp only [apt, if_neg q]
      exact ⟨h1, fun y hy => by have := h2 y hy; omega⟩
theorem apt_skip {nS : Nat} {D : Nat → Nat → Nat} {b : Nat} : ∀ m : Nat, nS + m ≤ 10 → apt nS D (10 * b + nS + m) = apt nS D (10 * b + nS)
  | 0, _ => rfl
  | m + 1, h => by
    rw [← apt_skip m (by omega)]
    show apt nS D (10 * b + nS + m + 1) = _
    simp only [apt]
    rw [if_neg (by omega)]
def fAp (what : Int32) (r : Option Nat × Nat) : Int32 := if oN r.1 = -2 ∨ what = 0 then oN r.1 else nI r.2
section
variable {I0 : xI} {J : xJ} {nB nS a c : Nat} {ls : lwT}
theorem s_X1_difference {I : xI} (h : Wd I nB nS ls) {b s : Nat} (hb : b < nB) (hs : s < nS) (a c : Nat) : Spec 12 (1000000, 0, 0) M_X1_difference [.ref 32, .int (nI (10 * b + s)), .int (nI a), .int (nI c)] xG1 I J (fun r g i j => r = some (.int (nI (dif I ls a c b s))) ∧ g = xG1 ∧ xFr [4, 5] I i ∧ j = J) := by
  obtain ⟨hB, hS⟩ := h.le
  have e7 : f_get I 0 7 = I 14 0 := f_get_its 7 (by omega) (by omega)
  have e8 : f_get I 0 8 = I 15 0 := f_get_its 8 (by omega) (by omega)
  have hd := (dst_facts (x := cyN I ls (f_min 95 (I 15 0 + I 7 b)) (nI a) (I 14 0) b s) (y := cyN I ls (f_min 95 (I 15 0 + I 7 b)) (nI c) (I 14 0) b s) cyN_le cyN_le).1
  refine spec_of (L := [some (.ref 32), some (.int (nI (10 * b + s))), some (.int (nI a)), some (.int (nI c)), none, none]) (by decide) (Nat.le_of_ble_eq_true rfl) rfl ?_
  refine iX1_difference_0 (iX1_difference_1 (iX1_difference_4 (iX1_difference_6 (s_X5_its 7 hB hS) ?_)))
  rw [e7]
  refine iX1_difference_9 (iX1_difference_11 (iX1_difference_12 (iX1_difference_15 (iX1_difference_17 (s_X5_its 8 hB hS) ?_))))
  rw [e8]
  refine iX1_difference_20 (iX1_difference_22 (iX1_difference_23 (iX1_difference_26 (iX1_difference_27 (iX1_difference_28 (iX1_difference_30 (jX1_difference_32 (s_X5_crying h hb hs _ _ _) (fun r32 g32 I32 J32 hq => ?_))))))))
  obtain ⟨rfl, rfl, hq3, rfl⟩ := hq
  have f1 := Fq.of hq3 (by decide)
  refine iX1_difference_35 (iX1_difference_36 (iX1_difference_39 (iX1_difference_40 (iX1_difference_41 (iX1_difference_43 (jX1_difference_45 (s_X5_crying (h.fr f1) hb hs _ _ _) (fun r45 g45 I45 J45 hq => ?_)))))))
  obtain ⟨rfl, rfl, hq4, rfl⟩ := hq
  rw [f1.1 7 (by decide) (by decide), cyN_fr f1]
  refine iX1_difference_48 (iX1_difference_49 (s_J9_abs _) (iX1_difference_52 ?_))
  exact ⟨by rw [hd]; rfl, rfl, hq3.tr hq4, rfl⟩
theorem s_X12_differBy {I : xI} (h : Wd I nB nS ls) {b s : Nat} (hb : b < nB) (hs : s < nS) (ha : a < 10) (hc : c < 10) : Spec 12 (1000000, 0, 0) M_X12_differBy [.ref 57, .int (nI (10 * a + c)), .int (nI b), .int (nI s)] xG1 I J (fun r g i j => r = some (.int (nI (dif I ls a c b s))) ∧ g = xG1 ∧ xFr [75, 76] I i ∧ j = J) := by
  obtain ⟨i0, i1, i2, -⟩ := h.2.2.2.2.2.2.2.2.1
  have ea : nI (10 * a + c) / 10 = nI a := bs_div ha hc
  have ec : nI (10 * a + c) - nI a * 10 = nI c := bs_rem ha hc
  have eC : (1 : Int32).toNatClampNeg = 1 ∧ (2 : Int32).toNatClampNeg = 2 := by decide
  obtain ⟨c1, c2⟩ := eC
  obtain ⟨-, d1, d2, -⟩ := dst_facts (x := cyN I ls (f_min 95 (I 15 0 + I 7 b)) (nI a) (I 14 0) b s) (y := cyN I ls (f_min 95 (I 15 0 + I 7 b)) (nI c) (I 14 0) b s) cyN_le cyN_le
  refine spec_of (L := [some (.ref 57), some (.int (nI (10 * a + c))), some (.int (nI b)), some (.int (nI s)), none, none]) (by decide) (Nat.le_of_ble_eq_true rfl) rfl ?_
  refine iX12_differBy_0 (iX12_differBy_1 (iX12_differBy_2 (iX12_differBy_5 (iX12_differBy_6 (vin 4 (by decide) (by decide) (by decide)) ?_))))
  rw [c2, i2]
  refine iX12_differBy_7 (iX12_differBy_8 (s_X12_sinceWith h hb _) (iX12_differBy_11 (iX12_differBy_13 (iX12_differBy_14 (iX12_differBy_16 (iX12_differBy_17 (iX12_differBy_19 (by decide) (iX12_differBy_20 (iX12_differBy_21 (iX12_differBy_24 (iX12_differBy_25 (vin 4 (by decide) (by decide) (by decide)) (iX12_differBy_26 (iX12_differBy_27 ?_)))))))))))))
  rw [ea, c1, i1]
  refine jX12_differBy_28 (s_X12_criesBy h hb hs _ _ _) (fun r28 g28 I28 J28 hq => ?_)
  obtain ⟨rfl, rfl, hq3, rfl⟩ := hq
  have f1 := Fq.of hq3 (by decide)
  refine iX12_differBy_31 (iX12_differBy_32 (iX12_differBy_34 (iX12_differBy_35 (iX12_differBy_37 (by decide) (iX12_differBy_38 (iX12_differBy_39 (iX12_differBy_42 (iX12_differBy_43 (vin 4 (by decide) (by decide) (by decide)) (iX12_differBy_44 (iX12_differBy_45 ?_))))))))))
  rw [ea, ec, c1, hq3 64 (by decide), i1]
  refine jX12_differBy_46 (s_X12_criesBy (h.fr f1) hb hs _ _ _) (fun r46 g46 I46 J46 hq => ?_)
  obtain ⟨rfl, rfl, hq4, rfl⟩ := hq
  rw [cyN_fr f1]
  refine iX12_differBy_49 (iX12_differBy_50 (iX12_differBy_52 (iX12_differBy_54 (fun h54 => ?_) (fun h54 => ?_))))
  · refine iX12_differBy_63 (iX12_differBy_65 ?_)
    refine ⟨?_, rfl, hq3.tr hq4, rfl⟩
    first | rw [d2 (by grind)] | rw [d1 (by grind)]
    rfl
  · refine iX12_differBy_57 (iX12_differBy_59 (iX12_differBy_60 (iX12_differBy_65 ?_)))
    refine ⟨?_, rfl, hq3.tr hq4, rfl⟩
    first | rw [d2 (by grind)] | rw [d1 (by grind)]
    rfl
theorem c_apart (h : Wd I0 nB nS ls) (ha : a < 10) (hc : c < 10) (what : Int32) : ∀ (m k : Nat), k + m = 10 * nB → ∀ (I : xI) x6, xFr [4, 5] I0 I → WP 1000 (1000000, 0, 0) none M_X11_apart (fun r g i j => r = some (.int (fAp what (apt nS (dif I0 ls a c) (10 * nB)))) ∧ g = xG1 ∧ xFr [4, 5] I0 i ∧ j = J) 39 [some (.ref 0), some (.int (nI (10 * a + c))), some (.int what), some (.int (oN (apt nS (dif I0 ls a c) k).1)), some (.int (nI (apt nS (dif I0 ls a c) k).2)), some (.int (nI k)), x6] [] xG1 I J := by
  have hnB := h.2.1
  have hnS := h.2.2.2.1
  have hD : ∀ b s, dif I0 ls a c b s ≤ 12 := fun b s => dif_le
  have ea : nI (10 * a + c) / 10 = nI a := bs_div ha hc
  have ec : nI (10 * a + c) - nI a * 10 = nI c := bs_rem ha hc
  have e10 : (10 : Int32) * nI nB = nI (10 * nB) := pk_mul 10 nB
  intro m
  induction m with
  | zero =>
    intro k hk I x6 hI
    obtain rfl : k = 10 * nB := by omega
    have wI := h.fr (Fq.of hI (by decide))
    refine iX11_apart_39 (iX11_apart_41 (iX11_apart_43 (iX11_apart_44 (iX11_apart_47 s_X5_billCount ?_))))
    rw [wI.1]
    refine iX11_apart_50 ?_
    rw [e10]
    refine iX11_apart_51 (fun h51 => ?_) (fun h51 => by first | exact absurd (Int32.le_refl _) h51 | exact absurd h51 (Int32.le_refl _))
    refine iX11_apart_109 (iX11_apart_110 (iX11_apart_112 (fun h112 => ?_) (fun h112 => ?_)))
    · refine iX11_apart_119 (iX11_apart_120 (iX11_apart_125 ?_))
      refine ⟨congrArg (fun z => some (Value.int z)) ?_, rfl, hI, rfl⟩
      unfold fAp
      grind
    · refine iX11_apart_115 (iX11_apart_116 (fun h116 => ?_) (fun h116 => ?_))
      · refine iX11_apart_123 (iX11_apart_125 ?_)
        refine ⟨congrArg (fun z => some (Value.int z)) ?_, rfl, hI, rfl⟩
        unfold fAp
        grind
      · refine iX11_apart_119 (iX11_apart_120 (iX11_apart_125 ?_))
        refine ⟨congrArg (fun z => some (Value.int z)) ?_, rfl, hI, rfl⟩
        unfold fAp
        grind
  | succ m ih =>
    intro k hk I x6 hI
    have fI := Fq.of hI (by decide)
    have wI := h.fr fI
    have ei : nI k + (1) = nI (k + 1) := nI_1 _
    have f51 : ¬ nI (10 * nB) ≤ nI k := nI_ge (by omega) (by omega)
    obtain ⟨l1, l2⟩ := apt_le hD (nS := nS) k
    have hl := hD (k / 10) (k % 10)
    have ek : 10 * (k / 10) + k % 10 = k := by omega
    by_cases q : k % 10 < nS
    · have hR := isR_yes wI (b := k / 10) (s := k % 10) (by omega) q
      rw [ek] at hR
      have sp := s_X1_difference (J := J) wI (b := k / 10) (s := k % 10) (by omega) q a c
      rw [ek, dif_fr fI] at sp
      by_cases q2 : (apt nS (dif I0 ls a c) k).2 < dif I0 ls a c (k / 10) (k % 10)
      · have e : apt nS (dif I0 ls a c) (k + 1) = (some k, dif I0 ls a c (k / 10) (k % 10)) := by simp only [apt]; rw [if_pos ⟨q, q2⟩]
        refine iX11_apart_39 (iX11_apart_41 (iX11_apart_43 (iX11_apart_44 (iX11_apart_47 s_X5_billCount ?_))))
        rw [wI.1]
        refine iX11_apart_50 ?_
        rw [e10]
        refine iX11_apart_51 (fun h51 => absurd h51 (f51)) (fun h51 => ?_)
        refine iX11_apart_54 (iX11_apart_55 (iX11_apart_58 (iX11_apart_60 (s_X5_isReading _) ?_)))
        rw [hR]
        refine iX11_apart_63 (fun h63 => absurd h63 ((by decide : ¬ (1 : Int32) = 0))) (fun h63 => ?_)
        refine iX11_apart_66 (iX11_apart_67 (iX11_apart_70 (iX11_apart_72 (iX11_apart_73 (iX11_apart_75 (by decide) (iX11_apart_76 (iX11_apart_77 (iX11_apart_79 (by decide) ?_))))))))
        rw [ea, ec]
        refine jX11_apart_80 sp (fun r80 g80 I80 J80 hq => ?_)
        obtain ⟨rfl, rfl, hq3, rfl⟩ := hq
        refine iX11_apart_83 (iX11_apart_87 (iX11_apart_89 (iX11_apart_91 (iX11_apart_93 (fun h93 => absurd h93 (nI_ge q2 (by omega))) (fun h93 => ?_)))))
        refine iX11_apart_96 (iX11_apart_98 (iX11_apart_100 (iX11_apart_102 (iX11_apart_103 (iX11_apart_106 ?_)))))
        rw [ei]
        have := ih (k + 1) (by omega) I80 (some (.int (nI (dif I0 ls a c (k / 10) (k % 10))))) (hI.tr hq3)
        rw [e] at this
        exact this
      · have e : apt nS (dif I0 ls a c) (k + 1) = apt nS (dif I0 ls a c) k := by simp only [apt]; rw [if_neg (fun z => q2 z.2)]
        refine iX11_apart_39 (iX11_apart_41 (iX11_apart_43 (iX11_apart_44 (iX11_apart_47 s_X5_billCount ?_))))
        rw [wI.1]
        refine iX11_apart_50 ?_
        rw [e10]
        refine iX11_apart_51 (fun h51 => absurd h51 (f51)) (fun h51 => ?_)
        refine iX11_apart_54 (iX11_apart_55 (iX11_apart_58 (iX11_apart_60 (s_X5_isReading _) ?_)))
        rw [hR]
        refine iX11_apart_63 (fun h63 => absurd h63 ((by decide : ¬ (1 : Int32) = 0))) (fun h63 => ?_)
        refine iX11_apart_66 (iX11_apart_67 (iX11_apart_70 (iX11_apart_72 (iX11_apart_73 (iX11_apart_75 (by decide) (iX11_apart_76 (iX11_apart_77 (iX11_apart_79 (by decide) ?_))))))))
        rw [ea, ec]
        refine jX11_apart_80 sp (fun r80 g80 I80 J80 hq => ?_)
        obtain ⟨rfl, rfl, hq3, rfl⟩ := hq
        refine iX11_apart_83 (iX11_apart_87 (iX11_apart_89 (iX11_apart_91 (iX11_apart_93 (fun h93 => ?_) (fun h93 => by first | exact absurd (nI_le (a := dif I0 ls a c (k / 10) (k % 10)) (b := (apt nS (dif I0 ls a c) k).2) (by omega) (by omega)) h93 | exact absurd h93 (nI_le (a := dif I0 ls a c (k / 10) (k % 10)) (b := (apt nS (dif I0 ls a c) k).2) (by omega) (by omega)))))))
        refine iX11_apart_103 (iX11_apart_106 ?_)
        rw [ei]
        have := ih (k + 1) (by omega) I80 (some (.int (nI (dif I0 ls a c (k / 10) (k % 10))))) (hI.tr hq3)
        rw [e] at this
        exact this
    · have hR : f_isReading I (nI k) = 0 := by
        rcases isR_cases wI (nI k) with z | ⟨z, b, s, hb, hs, hbs⟩
        · exact z
        · have := (nI_eq (by omega) (by omega)).mp hbs
          omega
      have e : apt nS (dif I0 ls a c) (k + 1) = apt nS (dif I0 ls a c) k := by simp only [apt]; rw [if_neg (fun z => q z.1)]
      refine iX11_apart_39 (iX11_apart_41 (iX11_apart_43 (iX11_apart_44 (iX11_apart_47 s_X5_billCount ?_))))
      rw [wI.1]
      refine iX11_apart_50 ?_
      rw [e10]
      refine iX11_apart_51 (fun h51 => absurd h51 (f51)) (fun h51 => ?_)
      refine iX11_apart_54 (iX11_apart_55 (iX11_apart_58 (iX11_apart_60 (s_X5_isReading _) (iX11_apart_63 (fun h63 => ?_) (fun h63 => by first | exact absurd (hR) h63 | exact absurd h63 (hR))))))
      refine iX11_apart_86 (iX11_apart_87 (iX11_apart_89 (iX11_apart_91 (iX11_apart_93 (fun h93 => ?_) (fun h93 => by first | exact absurd (nI_pos' (n := (apt nS (dif I0 ls a c) k).2) (by omega)) h93 | exact absurd h93 (nI_pos' (n := (apt nS (dif I0 ls a c) k).2) (by omega)))))))
      refine iX11_apart_103 (iX11_apart_106 ?_)
      rw [ei]
      have := ih (k + 1) (by omega) I (some (.int 0)) hI
      rw [e] at this
      exact this
theorem m_apart1 (h : Wd I0 nB nS ls) (ha : a < 10) (hc : c < 10) (what : Int32) {Q : xP} {b : Nat} (hb : b < nB) (kk : ∀ I, xFr [75, 76] I0 I → WP 1000 (1000000, 0, 0) none M_X12_apart Q 41 [some (.ref 57), some (.int (nI (10 * a + c))), some (.int what), some (.int (oN (apt nS (dif I0 ls a c) (10 * (b + 1))).1)), some (.int (nI (apt nS (dif I0 ls a c) (10 * (b + 1))).2)), some (.int (nI (b + 1))), some (.int (nI nS))] [] xG1 I J) : ∀ (m s : Nat), s + m = nS → ∀ (I : xI), xFr [75, 76] I0 I → WP 1000 (1000000, 0, 0) none M_X12_apart Q 53 [some (.ref 57), some (.int (nI (10 * a + c))), some (.int what), some (.int (oN (apt nS (dif I0 ls a c) (10 * b + s)).1)), some (.int (nI (apt nS (dif I0 ls a c) (10 * b + s)).2)), some (.int (nI b)), some (.int (nI s))] [] xG1 I J := by
  have hnB := h.2.1
  have hnS := h.2.2.2.1
  have hD : ∀ b s, dif I0 ls a c b s ≤ 12 := fun b s => dif_le
  intro m
  induction m with
  | zero =>
    intro s hs I hI
    obtain rfl : s = nS := by omega
    have wI := h.fr (Fq.of hI (by decide))
    have ei : nI b + (1) = nI (b + 1) := nI_1 _
    have e : apt s (dif I0 ls a c) (10 * (b + 1)) = apt s (dif I0 ls a c) (10 * b + s) := by
      have := apt_skip (nS := s) (D := dif I0 ls a c) (b := b) (10 - s) (by omega)
      rw [show 10 * b + s + (10 - s) = 10 * (b + 1) by omega] at this
      exact this
    have kk := kk I hI
    rw [e] at kk
    refine iX12_apart_53 (iX12_apart_55 (iX12_apart_56 ?_))
    rw [wI.2.2.2.2.2.1]
    refine iX12_apart_59 (fun h59 => ?_) (fun h59 => by first | exact absurd (Int32.le_refl _) h59 | exact absurd h59 (Int32.le_refl _))
    refine iX12_apart_105 (iX12_apart_108 ?_)
    rw [ei]
    exact kk
  | succ m ih =>
    intro s hs I hI
    have fI := Fq.of hI (by decide)
    have wI := h.fr fI
    have ei : nI s + (1) = nI (s + 1) := nI_1 _
    have f59 : ¬ nI nS ≤ nI s := nI_ge (by omega) (by omega)
    obtain ⟨l1, l2⟩ := apt_le hD (nS := nS) (10 * b + s)
    have hl := hD b s
    have sp := s_X12_differBy (J := J) wI hb (s := s) (by omega) ha hc
    rw [dif_fr fI] at sp
    have en : apt nS (dif I0 ls a c) (10 * b + (s + 1)) = if s < nS ∧ (apt nS (dif I0 ls a c) (10 * b + s)).2 < dif I0 ls a c b s then (some (10 * b + s), dif I0 ls a c b s) else apt nS (dif I0 ls a c) (10 * b + s) := by
      show apt nS (dif I0 ls a c) (10 * b + s + 1) = _
      simp only [apt]
      rw [show (10 * b + s) % 10 = s by omega, show (10 * b + s) / 10 = b by omega]
    by_cases q2 : (apt nS (dif I0 ls a c) (10 * b + s)).2 < dif I0 ls a c b s
    · rw [if_pos ⟨by omega, q2⟩] at en
      refine iX12_apart_53 (iX12_apart_55 (iX12_apart_56 ?_))
      rw [wI.2.2.2.2.2.1]
      refine iX12_apart_59 (fun h59 => absurd h59 (f59)) (fun h59 => ?_)
      refine iX12_apart_62 (iX12_apart_63 (iX12_apart_64 (iX12_apart_66 (jX12_apart_68 sp (fun r68 g68 I68 J68 hq => ?_)))))
      obtain ⟨rfl, rfl, hq3, rfl⟩ := hq
      have sp2 := s_X12_differBy (J := J68) (h.fr (Fq.of (hI.tr hq3) (by decide))) hb (s := s) (by omega) ha hc
      rw [dif_fr (Fq.of (hI.tr hq3) (by decide))] at sp2
      refine iX12_apart_71 (iX12_apart_73 (fun h73 => ?_) (fun h73 => by first | exact absurd (nI_lt q2 (by omega)) h73 | exact absurd h73 (nI_lt q2 (by omega))))
      refine iX12_apart_79 (iX12_apart_81 (iX12_apart_83 (iX12_apart_84 (iX12_apart_86 ?_))))
      rw [bs_mk]
      refine iX12_apart_87 (iX12_apart_88 (iX12_apart_89 (iX12_apart_90 (iX12_apart_92 (jX12_apart_94 sp2 (fun r94 g94 I94 J94 hq => ?_))))))
      obtain ⟨rfl, rfl, hq4, rfl⟩ := hq
      refine iX12_apart_97 (iX12_apart_99 (iX12_apart_102 ?_))
      rw [ei]
      have := ih (s + 1) (by omega) I94 ((hI.tr hq3).tr hq4)
      rw [en] at this
      exact this
    · rw [if_neg (fun z => q2 z.2)] at en
      refine iX12_apart_53 (iX12_apart_55 (iX12_apart_56 ?_))
      rw [wI.2.2.2.2.2.1]
      refine iX12_apart_59 (fun h59 => absurd h59 (f59)) (fun h59 => ?_)
      refine iX12_apart_62 (iX12_apart_63 (iX12_apart_64 (iX12_apart_66 (jX12_apart_68 sp (fun r68 g68 I68 J68 hq => ?_)))))
      obtain ⟨rfl, rfl, hq3, rfl⟩ := hq
      refine iX12_apart_71 (iX12_apart_73 (fun h73 => absurd h73 (nI_nlt (by omega) (by omega))) (fun h73 => ?_))
      refine iX12_apart_76 (iX12_apart_99 (iX12_apart_102 ?_))
      rw [ei]
      have := ih (s + 1) (by omega) I68 (hI.tr hq3)
      rw [en] at this
      exact this
theorem m_apart (h : Wd I0 nB nS ls) (ha : a < 10) (hc : c < 10) (what : Int32) : ∀ (m b : Nat), b + m = nB → ∀ (I : xI) x6, xFr [75, 76] I0 I → WP 1000 (1000000, 0, 0) none M_X12_apart (fun r g i j => r = some (.int (fAp what (apt nS (dif I0 ls a c) (10 * nB)))) ∧ g = xG1 ∧ xFr [75, 76] I0 i ∧ j = J) 41 [some (.ref 57), some (.int (nI (10 * a + c))), some (.int what), some (.int (oN (apt nS (dif I0 ls a c) (10 * b)).1)), some (.int (nI (apt nS (dif I0 ls a c) (10 * b)).2)), some (.int (nI b)), x6] [] xG1 I J := by
  have hnB := h.2.1
  have hD : ∀ b s, dif I0 ls a c b s ≤ 12 := fun b s => dif_le
  intro m
  induction m with
  | zero =>
    intro b hb I x6 hI
    obtain rfl : b = nB := by omega
    have wI := h.fr (Fq.of hI (by decide))
    obtain ⟨l1, l2⟩ := apt_le hD (nS := nS) (10 * b)
    generalize apt nS (dif I0 ls a c) (10 * b) = r at l1 l2
    have hr : oN r.1 = -2 ∨ 0 ≤ oN r.1 := by
      cases e : r.1 with
      | none => exact Or.inl rfl
      | some y => exact Or.inr (nI_pos' (n := y) (by have := l2 y e; omega))
    refine iX12_apart_41 (iX12_apart_43 (iX12_apart_44 ?_))
    rw [wI.2.2.2.2.1]
    refine iX12_apart_47 (fun h47 => ?_) (fun h47 => by first | exact absurd (Int32.le_refl _) h47 | exact absurd h47 (Int32.le_refl _))
    refine iX12_apart_111 (iX12_apart_112 (fun h112 => ?_) (fun h112 => ?_))
    · refine iX12_apart_119 (iX12_apart_120 (iX12_apart_125 ?_))
      refine ⟨congrArg (fun z => some (Value.int z)) ?_, rfl, hI, rfl⟩
      unfold fAp
      grind
    · refine iX12_apart_115 (iX12_apart_116 (fun h116 => ?_) (fun h116 => ?_))
      · refine iX12_apart_123 (iX12_apart_125 ?_)
        refine ⟨congrArg (fun z => some (Value.int z)) ?_, rfl, hI, rfl⟩
        unfold fAp
        grind
      · refine iX12_apart_119 (iX12_apart_120 (iX12_apart_125 ?_))
        refine ⟨congrArg (fun z => some (Value.int z)) ?_, rfl, hI, rfl⟩
        unfold fAp
        grind
  | succ m ih =>
    intro b hb I x6 hI
    have wI := h.fr (Fq.of hI (by decide))
    have f47 : ¬ nI nB ≤ nI b := nI_ge (by omega) (by omega)
    refine iX12_apart_41 (iX12_apart_43 (iX12_apart_44 ?_))
    rw [wI.2.2.2.2.1]
    refine iX12_apart_47 (fun h47 => absurd h47 (f47)) (fun h47 => ?_)
    refine iX12_apart_50 (iX12_apart_51 ?_)
    exact m_apart1 h ha hc what (b := b) (by omega) (fun I hI => ih (b + 1) (by omega) I _ hI) nS 0 (by omega) I hI
end
theorem pp_apart : PP_apart Inv := by
  intro I J h ab what
  obtain ⟨nB, nS, ls, w⟩ := Wd.of h
  by_cases hbad : f_in ab 0 99 = 0 ∨ ab / 10 = ab - ab / 10 * 10 ∨ f_in what 0 1 = 0
  · refine pair_q (v := -1) h ?_ (fun i j hi hj => ?_)
    · refine spec_of (L := [some (.ref 0), some (.int ab), some (.int what), none, none, none, none]) (by decide) (Nat.le_of_ble_eq_true rfl) rfl ?_
      refine iX11_apart_0 (iX11_apart_1 (fun h1 => ?_) (fun h1 => ?_))
      · refine iX11_apart_28 (iX11_apart_29 ?_)
        exact ⟨rfl, rfl, Fq.rf, Fj.rf⟩
      · refine iX11_apart_4 (iX11_apart_5 (iX11_apart_7 (fun h7 => ?_) (fun h7 => ?_)))
        · refine iX11_apart_28 (iX11_apart_29 ?_)
          exact ⟨rfl, rfl, Fq.rf, Fj.rf⟩
        · refine iX11_apart_10 (iX11_apart_11 (iX11_apart_13 (by decide) (iX11_apart_14 (iX11_apart_15 (iX11_apart_17 (by decide) (iX11_apart_18 (fun h18 => ?_) (fun h18 => ?_)))))))
          · refine iX11_apart_28 (iX11_apart_29 ?_)
            exact ⟨rfl, rfl, Fq.rf, Fj.rf⟩
          · refine iX11_apart_21 (iX11_apart_22 (s_X11_isPart _) (iX11_apart_25 (fun h25 => ?_) (fun h25 => ?_)))
            · exfalso
              rcases hbad with z | z | z
              · have := f_in_n z
                grind
              · exact absurd z (by grind)
              · grind
            · refine iX11_apart_28 (iX11_apart_29 ?_)
              exact ⟨rfl, rfl, Fq.rf, Fj.rf⟩
    · refine spec_of (L := [some (.ref 57), some (.int ab), some (.int what), none, none, none, none]) (by decide) (Nat.le_of_ble_eq_true rfl) rfl ?_
      refine iX12_apart_0 (iX12_apart_1 (iX12_apart_2 (iX12_apart_4 (s_X12_in _ _ _) (iX12_apart_7 (fun h7 => ?_) (fun h7 => ?_)))))
      · refine iX12_apart_30 (iX12_apart_31 ?_)
        exact ⟨rfl, rfl, Fq.rf, Fj.rf⟩
      · refine iX12_apart_10 (iX12_apart_11 (iX12_apart_13 (by decide) (iX12_apart_14 (iX12_apart_15 (iX12_apart_17 (by decide) (iX12_apart_18 (fun h18 => ?_) (fun h18 => ?_)))))))
        · refine iX12_apart_30 (iX12_apart_31 ?_)
          exact ⟨rfl, rfl, Fq.rf, Fj.rf⟩
        · refine iX12_apart_21 (iX12_apart_22 (iX12_apart_23 (iX12_apart_24 (s_X12_in _ _ _) (iX12_apart_27 (fun h27 => ?_) (fun h27 => ?_)))))
          · exfalso
            rcases hbad with z | z | z
            · grind
            · exact absurd z (by grind)
            · grind
          · refine iX12_apart_30 (iX12_apart_31 ?_)
            exact ⟨rfl, rfl, Fq.rf, Fj.rf⟩
  have h1 : ¬ f_in ab 0 99 = 0 := fun z => hbad (Or.inl z)
  have h2 : ¬ ab / 10 = ab - ab / 10 * 10 := fun z => hbad (Or.inr (Or.inl z))
  have h3 : ¬ f_in what 0 1 = 0 := fun z => hbad (Or.inr (Or.inr z))
  have hab := f_in_p h1
  obtain ⟨x, hx, rfl⟩ := nI_of2 (x := ab) (M := 99) (n := 99) (by decide) (by grind) hab.2
  have ex : x = 10 * (x / 10) + x % 10 := by omega
  have ha : x / 10 < 10 := by omega
  have hc : x % 10 < 10 := by omega
  generalize x / 10 = a at *
  generalize x % 10 = c at *
  subst ex
  have n1 : ¬ nI (10 * a + c) < 0 := nI_pos (by omega)
  refine pair_q (v := fAp what (apt nS (dif I ls a c) (10 * nB))) h ?_ (fun i j hi hj => ?_)
  · refine spec_of (L := [some (.ref 0), some (.int (nI (10 * a + c))), some (.int what), none, none, none, none]) (by decide) (Nat.le_of_ble_eq_true rfl) rfl ?_
    refine WP_Q (Q := fun r g i j => r = some (.int (fAp what (apt nS (dif I ls a c) (10 * nB)))) ∧ g = xG1 ∧ xFr [4, 5] I i ∧ j = J) ?_ (fun r g i j ⟨p1, p2, p3, p4⟩ => ⟨p1, p2, Fq.of p3 (by decide), by rw [p4]; exact Fj.rf⟩)
    refine iX11_apart_0 (iX11_apart_1 (fun h1 => absurd h1 (n1)) (fun h1 => ?_))
    refine iX11_apart_4 (iX11_apart_5 (iX11_apart_7 (fun h7 => absurd h7 ((by have := hab.2; grind))) (fun h7 => ?_)))
    refine iX11_apart_10 (iX11_apart_11 (iX11_apart_13 (by decide) (iX11_apart_14 (iX11_apart_15 (iX11_apart_17 (by decide) (iX11_apart_18 (fun h18 => absurd h18 (h2)) (fun h18 => ?_)))))))
    refine iX11_apart_21 (iX11_apart_22 (s_X11_isPart _) (iX11_apart_25 (fun h25 => ?_) (fun h25 => by first | exact absurd (h3) h25 | exact absurd h25 (h3))))
    refine iX11_apart_30 (iX11_apart_32 (iX11_apart_33 (iX11_apart_34 (iX11_apart_36 (iX11_apart_37 ?_)))))
    exact c_apart w ha hc what (10 * nB) 0 (by omega) I _ xFr.rf
  · refine spec_of (L := [some (.ref 57), some (.int (nI (10 * a + c))), some (.int what), none, none, none, none]) (by decide) (Nat.le_of_ble_eq_true rfl) rfl ?_
    refine WP_Q (Q := fun r g i' j' => r = some (.int (fAp what (apt nS (dif I ls a c) (10 * nB)))) ∧ g = xG1 ∧ xFr [75, 76] i i' ∧ j' = j) ?_ (fun r g i' j' ⟨p1, p2, p3, p4⟩ => ⟨p1, p2, Fq.of p3 (by decide), by rw [p4]; exact Fj.rf⟩)
    have key := m_apart (J := j) (w.fr hi) ha hc what nB 0 (by omega) i none xFr.rf
    rw [show dif i ls a c = dif I ls a c from funext fun b => funext fun s => dif_fr hi] at key
    refine iX12_apart_0 (iX12_apart_1 (iX12_apart_2 (iX12_apart_4 (s_X12_in _ _ _) (iX12_apart_7 (fun h7 => absurd h7 (h1)) (fun h7 => ?_)))))
    refine iX12_apart_10 (iX12_apart_11 (iX12_apart_13 (by decide) (iX12_apart_14 (iX12_apart_15 (iX12_apart_17 (by decide) (iX12_apart_18 (fun h18 => absurd h18 (h2)) (fun h18 => ?_)))))))
    refine iX12_apart_21 (iX12_apart_22 (iX12_apart_23 (iX12_apart_24 (s_X12_in _ _ _) (iX12_apart_27 (fun h27 => ?_) (fun h27 => by first | exact absurd (h3) h27 | exact absurd h27 (h3))))))
    refine iX12_apart_32 (iX12_apart_34 (iX12_apart_35 (iX12_apart_36 (iX12_apart_38 (iX12_apart_39 ?_)))))
    exact key
