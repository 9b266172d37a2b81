/-! ===== pairs cross, reader, apart ===== -/
theorem pair_q {Mc Mm : xM} {av : List Value} {I : xI} {J : xJ} {v : Int32} (h : Inv I J) (hc : Spec 1000 (1000000, 0, 0) Mc (.ref 0 :: av) xG1 I J (fun r g i j => r = some (.int v) ∧ g = xG1 ∧ Fq I i ∧ Fj J j)) (hm : ∀ i j, Fq I i → Fj J j → Spec 1000 (1000000, 0, 0) Mm (.ref 57 :: av) xG1 i j (fun r g i' j' => r = some (.int v) ∧ g = xG1 ∧ Fq i i' ∧ Fj j j')) : PairI Inv Mc Mm av I J :=
  ⟨v, fun i j => Fq I i ∧ Fj J j, hc, fun i j ⟨hi, hj⟩ => Spec.weaken (sc := none) (hm i j hi hj) (fun _ _ _ _ ⟨a, b, c, d⟩ => ⟨a, b, inv_scr h (hi.tr c) (hj.tr d)⟩)⟩
theorem pairJ_q {Mc Mm : xM} {av : List Value} {I : xI} {J : xJ} {v : Int64} (h : Inv I J) (hc : Spec 1000 (1000000, 0, 0) Mc (.ref 0 :: av) xG1 I J (fun r g i j => r = some (.long v) ∧ g = xG1 ∧ Fq I i ∧ Fj J j)) (hm : ∀ i j, Fq I i → Fj J j → Spec 1000 (1000000, 0, 0) Mm (.ref 57 :: av) xG1 i j (fun r g i' j' => r = some (.long v) ∧ g = xG1 ∧ Fq i i' ∧ Fj j j')) : PairJ Inv Mc Mm av I J :=
  ⟨v, fun i j => Fq I i ∧ Fj J j, hc, fun i j ⟨hi, hj⟩ => Spec.weaken (sc := none) (hm i j hi hj) (fun _ _ _ _ ⟨a, b, c, d⟩ => ⟨a, b, inv_scr h (hi.tr c) (hj.tr d)⟩)⟩
section
variable {I : xI} {J : xJ} {nB nS : Nat} {ls : lwT}
theorem in_lt {x z : Int32} (h0 : 0 ≤ z) (h1 : z ≤ 10) (h2 : ¬ x < 0) : z - 1 < x ↔ ¬ x < z := by grind
theorem hb_in (h : Wd I nB nS ls) (x : Int32) : f_in x 0 (I 57 1 - 1) = f_has I x 0 := by
  have e3 : I 57 1 = I 1 2 := h.2.2.2.2.1.trans h.1.symm
  have l0 : 0 ≤ I 1 2 := by rw [h.1]; exact nI_pos' (by have := h.2.1; omega)
  have l1 := h.le.1
  unfold f_in f_has
  rw [e3, if_pos (show (0 : Int32) ≤ 3 by decide)]
  by_cases q : x < 0
  · rw [if_pos (Or.inl q), if_pos (Or.inr (Or.inr q))]
  · rw [if_neg (show ¬ ((0 : Int32) < 0 ∨ (9 : Int32) < 0 ∨ x < 0) by rintro (w | w | w); exact absurd w (by decide); exact absurd w (by decide); exact q w)]
    have := in_lt l0 l1 q
    by_cases q2 : x < I 1 2
    · rw [if_pos q2, if_neg (by rintro (w | w); exact q w; exact this.mp w q2)]
    · rw [if_neg q2, if_pos (Or.inr (this.mpr q2))]
theorem hs_in (h : Wd I nB nS ls) (x : Int32) : f_in x 0 (I 57 6 - 1) = f_has I x 4 := by
  have e3 : I 57 6 = I 1 3 := h.2.2.2.2.2.1.trans h.2.2.1.symm
  have l0 : 0 ≤ I 1 3 := by rw [h.2.2.1]; exact nI_pos' (by have := h.2.2.2.1; omega)
  have l1 : I 1 3 ≤ 10 := Int32.le_trans h.le.2 (by decide)
  unfold f_in f_has
  rw [e3, if_neg (show ¬ (4 : Int32) ≤ 3 by decide), if_pos (show (4 : Int32) ≤ 5 by decide)]
  by_cases q : x < 0
  · rw [if_pos (Or.inl q), if_pos (Or.inr (Or.inr q))]
  · rw [if_neg (show ¬ ((4 : Int32) < 0 ∨ (9 : Int32) < 4 ∨ x < 0) by rintro (w | w | w); exact absurd w (by decide); exact absurd w (by decide); exact q w)]
    have := in_lt l0 l1 q
    by_cases q2 : x < I 1 3
    · rw [if_pos q2, if_neg (by rintro (w | w); exact q w; exact this.mp w q2)]
    · rw [if_neg q2, if_pos (Or.inr (this.mpr q2))]
theorem hasB_lt (h : Wd I nB nS ls) {k : Nat} (hk : k < 2 ^ 31) (q : ¬ f_has I (nI k) 0 = 0) : k < nB := by
  obtain ⟨h1, h2, -⟩ := h
  unfold f_has at q
  rw [h1] at q
  by_cases w : k < nB
  · exact w
  · exfalso
    apply q
    have := nI_nlt (b := nB) (a := k) (by omega) hk
    grind
theorem hasS_lt (h : Wd I nB nS ls) {k : Nat} (hk : k < 2 ^ 31) (q : ¬ f_has I (nI k) 4 = 0) : k < nS := by
  obtain ⟨-, -, h1, h2, -⟩ := h
  unfold f_has at q
  rw [h1] at q
  by_cases w : k < nS
  · exact w
  · exfalso
    apply q
    have := nI_nlt (b := nS) (a := k) (by omega) hk
    grind
theorem isR_cases (h : Wd I nB nS ls) (bs : Int32) : f_isReading I bs = 0 ∨ (f_isReading I bs = 1 ∧ ∃ b s : Nat, b < nB ∧ s < nS ∧ bs = nI (10 * b + s)) := by
  unfold f_isReading
  by_cases h0 : bs < 0
  · rw [if_pos h0]; exact Or.inl rfl
  rw [if_neg h0]
  obtain ⟨n, hn, rfl⟩ := nI_of (x := bs) h0
  have ed : nI n / 10 = nI (n / 10) := pk_div (d := 10) hn (by omega) (by omega)
  have er : nI n - nI n / 10 * 10 = nI (n % 10) := pk_rem (d := 10) hn (by omega) (by omega)
  rw [er, ed]
  by_cases h1 : f_has I (nI (n / 10)) 0 = 0
  · rw [if_pos h1]; exact Or.inl rfl
  rw [if_neg h1]
  by_cases h2 : f_has I (nI (n % 10)) 4 = 0
  · rw [if_pos h2]; exact Or.inl rfl
  rw [if_neg h2]
  exact Or.inr ⟨rfl, n / 10, n % 10, hasB_lt h (by omega) h1, hasS_lt h (by omega) h2, by rw [show 10 * (n / 10) + n % 10 = n by omega]⟩
theorem isR_fr {I' : xI} (f : Fq I I') (bs : Int32) : f_isReading I' bs = f_isReading I bs := by
  unfold f_isReading
  rw [f_has_fr f, f_has_fr f]
theorem isR_yes (h : Wd I nB nS ls) {b s : Nat} (hb : b < nB) (hs : s < nS) : f_isReading I (nI (10 * b + s)) = 1 := by
  have hb10 : b < 10 := by have := h.2.1; omega
  have hs6 : s < 6 := by have := h.2.2.2.1; omega
  have h1 : f_has I (nI b) 0 = 1 := has_b h hb (w := 0) (by omega)
  have h2 : f_has I (nI s) 4 = 1 := has_s h hs (w := 4) (Or.inl rfl)
  unfold f_isReading
  rw [bs_div hb10 (by omega), bs_rem hb10 (by omega), if_neg (nI_pos (by omega)), h1, h2]
  decide
theorem s_X12_areTwo (h : Wd I nB nS ls) (bs : Int32) : SpecF 2 M_X12_areTwo [.ref 57, .int bs] xG1 I J (some (.int (f_isReading I bs))) I J := by
  refine specF_of (L := [some (.ref 57), some (.int bs)]) (by decide) (Nat.le_of_ble_eq_true rfl) rfl ?_
  refine iX12_areTwo_0 (iX12_areTwo_1 (fun h1 => ?_) (fun h1 => ?_))
  · refine iX12_areTwo_30 (iX12_areTwo_31 ?_)
    exact ⟨by simp [f_isReading, *], rfl, rfl, rfl⟩
  · refine iX12_areTwo_4 (iX12_areTwo_5 (iX12_areTwo_6 (iX12_areTwo_8 (by decide) (iX12_areTwo_9 (s_X12_isBill _) ?_))))
    rw [hb_in h]
    refine iX12_areTwo_12 (fun h12 => ?_) (fun h12 => ?_)
    · refine iX12_areTwo_30 (iX12_areTwo_31 ?_)
      exact ⟨by simp [f_isReading, *], rfl, rfl, rfl⟩
    · refine iX12_areTwo_15 (iX12_areTwo_16 (iX12_areTwo_17 (iX12_areTwo_19 (by decide) (iX12_areTwo_20 (s_X12_isSenator _) ?_))))
      rw [hs_in h]
      refine iX12_areTwo_23 (fun h23 => ?_) (fun h23 => ?_)
      · refine iX12_areTwo_30 (iX12_areTwo_31 ?_)
        exact ⟨by simp [f_isReading, *], rfl, rfl, rfl⟩
      · refine iX12_areTwo_26 (iX12_areTwo_27 (iX12_areTwo_31 ?_))
        exact ⟨by simp [f_isReading, *], rfl, rfl, rfl⟩
end
theorem pp_cross : PP_cross Inv := by
  intro I J h bs
  obtain ⟨nB, nS, ls, w⟩ := Wd.of h
  rcases isR_cases w bs with q | ⟨q, b, s, hb, hs, rfl⟩
  · refine pair_q (v := -1) h ?_ (fun i j hi hj => ?_)
    · refine spec_of (L := [some (.ref 0), some (.int bs)]) (by decide) (Nat.le_of_ble_eq_true rfl) rfl ?_
      refine iX11_cross_0 (iX11_cross_1 (iX11_cross_4 (iX11_cross_5 (s_X5_isReading _) (iX11_cross_8 (fun h8 => ?_) (fun h8 => by first | exact absurd (q) h8 | exact absurd h8 (q))))))
      refine iX11_cross_22 (iX11_cross_23 ?_)
      exact ⟨rfl, rfl, Fq.rf, Fj.rf⟩
    · refine spec_of (L := [some (.ref 57), some (.int bs)]) (by decide) (Nat.le_of_ble_eq_true rfl) rfl ?_
      refine iX12_cross_0 (iX12_cross_1 (iX12_cross_2 (s_X12_areTwo (w.fr hi) bs) ?_))
      rw [isR_fr hi]
      refine iX12_cross_5 (fun h5 => ?_) (fun h5 => by first | exact absurd (q) h5 | exact absurd h5 (q))
      refine iX12_cross_23 (iX12_cross_24 ?_)
      exact ⟨rfl, rfl, Fq.rf, Fj.rf⟩
  · have n0 : ¬ f_isReading I (nI (10 * b + s)) = 0 := by rw [q]; decide
    have hb10 : b < 10 := by have := w.2.1; omega
    have hs6 : s < 6 := by have := w.2.2.2.1; omega
    refine pair_q (v := nI (nxN I ls b s)) h ?_ (fun i j hi hj => ?_)
    · refine spec_of (L := [some (.ref 0), some (.int (nI (10 * b + s)))]) (by decide) (Nat.le_of_ble_eq_true rfl) rfl ?_
      refine iX11_cross_0 (iX11_cross_1 (iX11_cross_4 (iX11_cross_5 (s_X5_isReading _) (iX11_cross_8 (fun h8 => absurd h8 (n0)) (fun h8 => ?_)))))
      refine iX11_cross_11 (iX11_cross_12 (iX11_cross_15 (jX11_cross_16 (s_X5_cryingNow w hb hs) (fun r16 g16 I16 J16 hq => ?_))))
      obtain ⟨rfl, rfl, hq3, rfl⟩ := hq
      refine iX11_cross_19 (iX11_cross_23 ?_)
      exact ⟨rfl, rfl, Fq.of hq3 (by decide), Fj.rf⟩
    · refine spec_of (L := [some (.ref 57), some (.int (nI (10 * b + s)))]) (by decide) (Nat.le_of_ble_eq_true rfl) rfl ?_
      have eb : nI (10 * b + s) / 10 = nI b := bs_div hb10 (by omega)
      have es : nI (10 * b + s) - nI b * 10 = nI s := bs_rem hb10 (by omega)
      refine iX12_cross_0 (iX12_cross_1 (iX12_cross_2 (s_X12_areTwo (w.fr hi) _) ?_))
      rw [isR_fr hi]
      refine iX12_cross_5 (fun h5 => absurd h5 (n0)) (fun h5 => ?_)
      refine iX12_cross_8 (iX12_cross_9 (iX12_cross_10 (iX12_cross_12 (by decide) (iX12_cross_13 (iX12_cross_14 (iX12_cross_16 (by decide) ?_))))))
      rw [eb, es]
      refine jX12_cross_17 (s_X12_nextBy (w.fr hi) hb hs) (fun r17 g17 I17 J17 hq => ?_)
      obtain ⟨rfl, rfl, hq3, rfl⟩ := hq
      refine iX12_cross_20 (iX12_cross_24 ?_)
      exact ⟨by rw [nxN_fr hi], rfl, Fq.of hq3 (by decide), Fj.rf⟩
/-! by whom it is best read -/
def rdr (g : Nat → Nat) : Nat → Option Nat × Nat
  | 0 => (none, 13)
  | s + 1 => if g s < (rdr g s).2 then (some s, g s) else rdr g s
theorem rdr_ok {g : Nat → Nat} (hg : ∀ s, g s ≤ 12) : ∀ s : Nat, ((rdr g s).1 = none ∧ s = 0 ∧ (rdr g s).2 = 13) ∨ ∃ y, (rdr g s).1 = some y ∧ y < s ∧ (rdr g s).2 = g y
  | 0 => Or.inl ⟨rfl, rfl, rfl⟩
  | s + 1 => by
    refine Or.inr ?_
    by_cases q : g s < (rdr g s).2
    · simp only [rdr, if_pos q]
      exact ⟨s, rfl, by omega, rfl⟩
    · simp only [rdr, if_neg q]
      rcases rdr_ok hg s with ⟨h1, h2, h3⟩ | ⟨y, h1, h2, h3⟩
      · have := hg s; omega
      · exact ⟨y, h1, by omega, h3⟩
theorem rdr_2 {g : Nat → Nat} (hg : ∀ s, g s ≤ 12) (s : Nat) : (rdr g s).2 ≤ 13 := by
  rcases rdr_ok hg s with ⟨h1, h2, h3⟩ | ⟨y, h1, h2, h3⟩
  · omega
  · have := hg y; omega
section
variable {I0 : xI} {J : xJ} {nB nS : Nat} {ls : lwT}
theorem c_reader (h : Wd I0 nB nS ls) {b : Nat} (hb : b < nB) : ∀ (m s : Nat), s + m = nS → ∀ (I : xI) (a5), Fq I0 I → WP 1000 (1000000, 0, 0) none M_X11_reader (fun r g i j => r = some (.int (oN (rdr (nxN I0 ls b) nS).1)) ∧ g = xG1 ∧ Fq I0 i ∧ Fj J j) 23 [some (.ref 0), some (.int (nI b)), some (.int (oN (rdr (nxN I0 ls b) s).1)), some (.int (nI (rdr (nxN I0 ls b) s).2)), some (.int (nI s)), a5] [] xG1 I J := by
  have hg : ∀ s, nxN I0 ls b s ≤ 12 := fun s => cyN_le
  have hS := h.2.2.2.1
  intro m
  induction m with
  | zero =>
    intro s hs I a5 hI
    obtain rfl : s = nS := by omega
    have t32 : I 1 3 ≤ nI s := by rw [(h.fr hI).2.2.1]; exact Int32.le_refl _
    refine iX11_reader_23 (iX11_reader_25 (iX11_reader_26 (iX11_reader_29 s_X5_senatorCount (iX11_reader_32 (fun h32 => ?_) (fun h32 => by first | exact absurd (t32) h32 | exact absurd h32 (t32))))))
    refine iX11_reader_69 (iX11_reader_70 ?_)
    exact ⟨rfl, rfl, hI, Fj.rf⟩
  | succ m ih =>
    intro s hs I a5 hI
    have wI := h.fr hI
    have t32 : ¬ I 1 3 ≤ nI s := by rw [wI.2.2.1]; exact nI_ge (by omega) (by omega)
    have e1 : nI s + (1) = nI (s + 1) := nI_1 _
    have h13 := rdr_2 hg s
    have h12 := hg s
    by_cases q : nxN I0 ls b s < (rdr (nxN I0 ls b) s).2
    · have e : rdr (nxN I0 ls b) (s + 1) = (some s, nxN I0 ls b s) := by simp only [rdr, if_pos q]
      refine iX11_reader_23 (iX11_reader_25 (iX11_reader_26 (iX11_reader_29 s_X5_senatorCount (iX11_reader_32 (fun h32 => absurd h32 (t32)) (fun h32 => ?_)))))
      refine iX11_reader_35 (iX11_reader_36 (iX11_reader_39 (iX11_reader_41 (iX11_reader_42 (iX11_reader_43 (iX11_reader_45 ?_))))))
      rw [bs_mk]
      refine jX11_reader_46 (s_X5_cryingNow wI hb (s := s) (by omega)) (fun r46 g46 I46 J46 hq => ?_)
      obtain ⟨rfl, rfl, hq3, rfl⟩ := hq
      rw [nxN_fr hI]
      refine iX11_reader_49 (iX11_reader_51 (iX11_reader_53 (iX11_reader_54 (fun h54 => absurd h54 (nI_ge q (by omega))) (fun h54 => ?_))))
      refine iX11_reader_57 (iX11_reader_59 (iX11_reader_60 (iX11_reader_62 (iX11_reader_63 (iX11_reader_66 ?_)))))
      rw [e1]
      have := ih (s + 1) (by omega) I46 (some (.int (nI (nxN I0 ls b s)))) (hI.tr (Fq.of hq3 (by decide)))
      rw [e] at this
      exact this
    · have e : rdr (nxN I0 ls b) (s + 1) = rdr (nxN I0 ls b) s := by simp only [rdr, if_neg q]
      refine iX11_reader_23 (iX11_reader_25 (iX11_reader_26 (iX11_reader_29 s_X5_senatorCount (iX11_reader_32 (fun h32 => absurd h32 (t32)) (fun h32 => ?_)))))
      refine iX11_reader_35 (iX11_reader_36 (iX11_reader_39 (iX11_reader_41 (iX11_reader_42 (iX11_reader_43 (iX11_reader_45 ?_))))))
      rw [bs_mk]
      refine jX11_reader_46 (s_X5_cryingNow wI hb (s := s) (by omega)) (fun r46 g46 I46 J46 hq => ?_)
      obtain ⟨rfl, rfl, hq3, rfl⟩ := hq
      rw [nxN_fr hI]
      refine iX11_reader_49 (iX11_reader_51 (iX11_reader_53 (iX11_reader_54 (fun h54 => ?_) (fun h54 => by first | exact absurd (nI_le (by omega) (by omega)) h54 | exact absurd h54 (nI_le (by omega) (by omega))))))
      refine iX11_reader_63 (iX11_reader_66 ?_)
      rw [e1]
      have := ih (s + 1) (by omega) I46 (some (.int (nI (nxN I0 ls b s)))) (hI.tr (Fq.of hq3 (by decide)))
      rw [e] at this
      exact this
theorem m_reader (h : Wd I0 nB nS ls) {b : Nat} (hb : b < nB) : ∀ (m s : Nat), s + m = nS → ∀ (I : xI), Fq I0 I → WP 1000 (1000000, 0, 0) none M_X12_reader (fun r g i j => r = some (.int (oN (rdr (nxN I0 ls b) nS).1)) ∧ g = xG1 ∧ Fq I0 i ∧ Fj J j) 15 [some (.ref 57), some (.int (nI b)), some (.int (oN (rdr (nxN I0 ls b) s).1)), some (.int (nI s))] [] xG1 I J := by
  have hg : ∀ s, nxN I0 ls b s ≤ 12 := fun s => cyN_le
  have hS := h.2.2.2.1
  intro m
  induction m with
  | zero =>
    intro s hs I hI
    obtain rfl : s = nS := by omega
    have t32 : I 57 6 ≤ nI s := by rw [(h.fr hI).2.2.2.2.2.1]; exact Int32.le_refl _
    refine iX12_reader_15 (iX12_reader_16 (iX12_reader_17 (iX12_reader_20 (fun h20 => ?_) (fun h20 => by first | exact absurd (t32) h20 | exact absurd h20 (t32)))))
    refine iX12_reader_50 (iX12_reader_51 ?_)
    exact ⟨rfl, rfl, hI, Fj.rf⟩
  | succ m ih =>
    intro s hs I hI
    have wI := h.fr hI
    have t20 : ¬ I 57 6 ≤ nI s := by rw [wI.2.2.2.2.2.1]; exact nI_ge (by omega) (by omega)
    have e1 : nI s + (1) = nI (s + 1) := nI_1 _
    have h12 := hg s
    rcases rdr_ok hg s with ⟨r1, r2, r3⟩ | ⟨y, r1, r2, r3⟩
    · have e : rdr (nxN I0 ls b) (s + 1) = (some s, nxN I0 ls b s) := by simp only [rdr]; rw [if_pos (by omega)]
      rw [r1]
      refine iX12_reader_15 (iX12_reader_16 (iX12_reader_17 (iX12_reader_20 (fun h20 => absurd h20 (t20)) (fun h20 => ?_))))
      refine iX12_reader_23 (iX12_reader_24 (fun h24 => ?_) (fun h24 => by first | exact absurd ((by decide : oN none < 0)) h24 | exact absurd h24 ((by decide : oN none < 0))))
      refine iX12_reader_42 (iX12_reader_43 (iX12_reader_44 (iX12_reader_47 ?_)))
      rw [e1]
      have := ih (s + 1) (by omega) I hI
      rw [e] at this
      exact this
    · rw [r1]
      have f24 : ¬ oN (some y) < 0 := nI_pos (n := y) (by omega)
      have hy := hg y
      by_cases q : nxN I0 ls b s < nxN I0 ls b y
      · have e : rdr (nxN I0 ls b) (s + 1) = (some s, nxN I0 ls b s) := by simp only [rdr]; rw [if_pos (by omega)]
        refine iX12_reader_15 (iX12_reader_16 (iX12_reader_17 (iX12_reader_20 (fun h20 => absurd h20 (t20)) (fun h20 => ?_))))
        refine iX12_reader_23 (iX12_reader_24 (fun h24 => absurd h24 (f24)) (fun h24 => ?_))
        refine iX12_reader_27 (iX12_reader_28 (iX12_reader_29 (jX12_reader_30 (s_X12_nextBy wI hb (s := s) (by omega)) (fun r30 g30 I30 J30 hq => ?_))))
        obtain ⟨rfl, rfl, hq3, rfl⟩ := hq
        have f3 := Fq.of hq3 (by decide)
        rw [nxN_fr hI]
        refine iX12_reader_33 (iX12_reader_34 (iX12_reader_35 (jX12_reader_36 (s_X12_nextBy (wI.fr f3) hb (s := y) (by omega)) (fun r36 g36 I36 J36 hq => ?_))))
        obtain ⟨rfl, rfl, hq4, rfl⟩ := hq
        have f4 := f3.tr (Fq.of hq4 (by decide))
        rw [nxN_fr (hI.tr f3)]
        refine iX12_reader_39 (fun h39 => absurd h39 (nI_ge q (by omega))) (fun h39 => ?_)
        refine iX12_reader_42 (iX12_reader_43 (iX12_reader_44 (iX12_reader_47 ?_)))
        rw [e1]
        have := ih (s + 1) (by omega) I36 (hI.tr f4)
        rw [e] at this
        exact this
      · have e : rdr (nxN I0 ls b) (s + 1) = rdr (nxN I0 ls b) s := by simp only [rdr]; rw [if_neg (by omega)]
        refine iX12_reader_15 (iX12_reader_16 (iX12_reader_17 (iX12_reader_20 (fun h20 => absurd h20 (t20)) (fun h20 => ?_))))
        refine iX12_reader_23 (iX12_reader_24 (fun h24 => absurd h24 (f24)) (fun h24 => ?_))
        refine iX12_reader_27 (iX12_reader_28 (iX12_reader_29 (jX12_reader_30 (s_X12_nextBy wI hb (s := s) (by omega)) (fun r30 g30 I30 J30 hq => ?_))))
        obtain ⟨rfl, rfl, hq3, rfl⟩ := hq
        have f3 := Fq.of hq3 (by decide)
        rw [nxN_fr hI]
        refine iX12_reader_33 (iX12_reader_34 (iX12_reader_35 (jX12_reader_36 (s_X12_nextBy (wI.fr f3) hb (s := y) (by omega)) (fun r36 g36 I36 J36 hq => ?_))))
        obtain ⟨rfl, rfl, hq4, rfl⟩ := hq
        have f4 := f3.tr (Fq.of hq4 (by decide))
        rw [nxN_fr (hI.tr f3)]
        refine iX12_reader_39 (fun h39 => ?_) (fun h39 => by first | exact absurd (nI_le (by omega) (by omega)) h39 | exact absurd h39 (nI_le (by omega) (by omega)))
        refine iX12_reader_44 (iX12_reader_47 ?_)
        rw [e1]
        have := ih (s + 1) (by omega) I36 (hI.tr f4)
        rw [e, r1] at this
        exact this
end
theorem pp_reader : PP_reader Inv := by
  intro I J h x
  obtain ⟨nB, nS, ls, w⟩ := Wd.of h
  by_cases q : f_has I x 0 = 0
  · refine pair_q (v := -1) h ?_ (fun i j hi hj => ?_)
    · refine spec_of (L := [some (.ref 0), some (.int x), none, none, none, none]) (by decide) (Nat.le_of_ble_eq_true rfl) rfl ?_
      refine iX11_reader_0 (iX11_reader_1 (iX11_reader_4 (iX11_reader_5 (iX11_reader_6 (s_X5_has _ _) (iX11_reader_9 (fun h9 => absurd h9 (fun z => z q)) (fun h9 => ?_))))))
      refine iX11_reader_12 (iX11_reader_13 ?_)
      exact ⟨rfl, rfl, Fq.rf, Fj.rf⟩
    · refine spec_of (L := [some (.ref 57), some (.int x), none, none]) (by decide) (Nat.le_of_ble_eq_true rfl) rfl ?_
      refine iX12_reader_0 (iX12_reader_1 (iX12_reader_2 (s_X12_isBill _) ?_))
      rw [hb_in (w.fr hi), f_has_fr hi]
      refine iX12_reader_5 (fun h5 => absurd h5 (fun z => z q)) (fun h5 => ?_)
      refine iX12_reader_8 (iX12_reader_9 ?_)
      exact ⟨rfl, rfl, Fq.rf, Fj.rf⟩
  · obtain ⟨b, hb31, rfl⟩ := nI_of (x := x) (by unfold f_has at q; grind)
    have hb := hasB_lt w hb31 q
    refine pair_q (v := oN (rdr (nxN I ls b) nS).1) h ?_ (fun i j hi hj => ?_)
    · refine spec_of (L := [some (.ref 0), some (.int (nI b)), none, none, none, none]) (by decide) (Nat.le_of_ble_eq_true rfl) rfl ?_
      refine iX11_reader_0 (iX11_reader_1 (iX11_reader_4 (iX11_reader_5 (iX11_reader_6 (s_X5_has _ _) (iX11_reader_9 (fun h9 => ?_) (fun h9 => by first | exact absurd (q) h9 | exact absurd h9 (q)))))))
      refine iX11_reader_14 (iX11_reader_16 (iX11_reader_17 (iX11_reader_19 (iX11_reader_20 (iX11_reader_21 ?_)))))
      exact c_reader w hb nS 0 (by omega) I _ Fq.rf
    · refine spec_of (L := [some (.ref 57), some (.int (nI b)), none, none]) (by decide) (Nat.le_of_ble_eq_true rfl) rfl ?_
      have hf : nxN i ls b = nxN I ls b := funext fun s => nxN_fr hi
      have key := m_reader (J := j) (w.fr hi) hb nS 0 (by omega) i Fq.rf
      rw [hf] at key
      refine iX12_reader_0 (iX12_reader_1 (iX12_reader_2 (s_X12_isBill _) ?_))
      rw [hb_in (w.fr hi), f_has_fr hi]
      refine iX12_reader_5 (fun h5 => ?_) (fun h5 => by first | exact absurd (q) h5 | exact absurd h5 (q))
      refine iX12_reader_10 (iX12_reader_12 (iX12_reader_13 (iX12_reader_14 ?_)))
      exact key
