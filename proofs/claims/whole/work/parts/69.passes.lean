/-! ===== pairs passes, quiet, mean ===== -/
section
variable {I : xI} {J : xJ} {nB nS k L : Nat} {ls : lwT} {Bf : Nat → Int32}
theorem s_X11_takes_no {s : Int32} (hs : f_in s 0 5 = 0) : SpecF 6 M_X11_takesAgenda [.ref 0, .int s] xG1 I J (some (.int 0)) I J := by
  refine specF_of (L := [some (.ref 0), some (.int s)]) (by decide) (Nat.le_of_ble_eq_true rfl) rfl ?_
  refine iX11_takesAgenda_0 (iX11_takesAgenda_1 (iX11_takesAgenda_2 (s_X11_isShelf _) (iX11_takesAgenda_5 (fun h5 => ?_) (fun h5 => by first | exact absurd (hs) h5 | exact absurd h5 (hs)))))
  refine iX11_takesAgenda_20 (iX11_takesAgenda_21 ?_)
  exact ⟨rfl, rfl, rfl, rfl⟩
theorem s_X11_takes_ref (hk : k < 6) (hr : ¬ f_refB I (45 + 2 * k) = 0) : SpecF 6 M_X11_takesAgenda [.ref 0, .int (nI k)] xG1 I J (some (.int 0)) I J := by
  have hsx := xSh_at hk
  have hvs : vp_in (nI k) 6 := vp_in_nI hk (by omega)
  have hka : xr xG1 44 (nI k).toNatClampNeg = some (45 + 2 * k) := by rw [nI_clamp (by omega)]; exact (shelf_at hk).1
  have hs : ¬ f_in (nI k) 0 5 = 0 := by rw [f_in_1 (v := nI k) (a := 0) (b := 5) (nI_pos' (by omega)) (nI_le (b := 5) (by omega) (by omega))]; decide
  refine specF_of (L := [some (.ref 0), some (.int (nI k))]) (by decide) (Nat.le_of_ble_eq_true rfl) rfl ?_
  refine iX11_takesAgenda_0 (iX11_takesAgenda_1 (iX11_takesAgenda_2 (s_X11_isShelf _) (iX11_takesAgenda_5 (fun h5 => absurd h5 (hs)) (fun h5 => ?_))))
  refine iX11_takesAgenda_8 (iX11_takesAgenda_9 (iX11_takesAgenda_12 (iX11_takesAgenda_13 hvs hka (iX11_takesAgenda_14 hsx.1 (s_X9_refusalOfBytes hsx) (iX11_takesAgenda_17 (fun h17 => absurd h17 (hr)) (fun h17 => ?_))))))
  refine iX11_takesAgenda_20 (iX11_takesAgenda_21 ?_)
  exact ⟨rfl, rfl, rfl, rfl⟩
theorem s_X11_takes (h : Wd I nB nS ls) (R : Rw I J k L Bf) (hr : f_refB I (45 + 2 * k) = 0) : Spec 6 (1000000, 0, 0) M_X11_takesAgenda [.ref 0, .int (nI k)] xG1 I J (fun r g i j => r = some (.int 1) ∧ g = xG1 ∧ xFr [25, 26] I i ∧ j = J ∧ AgC i (agL Bf L nB nS 10 0)) := by
  have hk := R.1
  have hsx := xSh_at hk
  have hvs : vp_in (nI k) 6 := vp_in_nI hk (by omega)
  have hka : xr xG1 44 (nI k).toNatClampNeg = some (45 + 2 * k) := by rw [nI_clamp (by omega)]; exact (shelf_at hk).1
  have hs : ¬ f_in (nI k) 0 5 = 0 := by rw [f_in_1 (v := nI k) (a := 0) (b := 5) (nI_pos' (by omega)) (nI_le (b := 5) (by omega) (by omega))]; decide
  refine spec_of (L := [some (.ref 0), some (.int (nI k))]) (by decide) (Nat.le_of_ble_eq_true rfl) rfl ?_
  refine iX11_takesAgenda_0 (iX11_takesAgenda_1 (iX11_takesAgenda_2 (s_X11_isShelf _) (iX11_takesAgenda_5 (fun h5 => absurd h5 (hs)) (fun h5 => ?_))))
  refine iX11_takesAgenda_8 (iX11_takesAgenda_9 (iX11_takesAgenda_12 (iX11_takesAgenda_13 hvs hka (iX11_takesAgenda_14 hsx.1 (s_X9_refusalOfBytes hsx) (iX11_takesAgenda_17 (fun h17 => ?_) (fun h17 => by first | exact absurd (hr) h17 | exact absurd h17 (hr)))))))
  refine iX11_takesAgenda_22 (iX11_takesAgenda_23 (iX11_takesAgenda_26 (iX11_takesAgenda_27 (iX11_takesAgenda_30 (iX11_takesAgenda_31 hvs hka (jX11_takesAgenda_32 (s_X0_take h R) (fun r32 g32 I32 J32 hq => ?_)))))))
  obtain ⟨rfl, rfl, hq3, rfl, hq5⟩ := hq
  refine iX11_takesAgenda_35 (iX11_takesAgenda_36 ?_)
  exact ⟨rfl, rfl, hq3, rfl, hq5⟩
theorem s_X0_size : SpecF 0 M_X0_size [.ref 25] xG1 I J (some (.int (I 25 4))) I J := by
  refine specF_of (L := [some (.ref 25)]) (by decide) (Nat.le_of_ble_eq_true rfl) rfl ?_
  refine iX0_size_0 (iX0_size_1 (iX0_size_4 ?_))
  exact ⟨rfl, rfl, rfl, rfl⟩
theorem s_X12_firstOf {n a : Nat} (hn : n < 2 ^ 31) (ha : a < 2 ^ 31) (hA : I 57 31 = nI a) : SpecF 0 M_X12_firstOf [.ref 57, .int (nI n)] xG1 I J (some (.int (nI (min n a)))) I J := by
  refine specF_of (L := [some (.ref 57), some (.int (nI n))]) (by decide) (Nat.le_of_ble_eq_true rfl) rfl ?_
  have q5 : nI a ≤ nI n ↔ a ≤ n := nI_leI ha hn
  refine iX12_firstOf_0 (iX12_firstOf_1 (iX12_firstOf_2 ?_))
  rw [hA]
  refine iX12_firstOf_5 (fun h5 => ?_) (fun h5 => ?_)
  · refine iX12_firstOf_12 (iX12_firstOf_13 (iX12_firstOf_16 ?_))
    refine ⟨congrArg (fun z => some (Value.int z)) ?_, rfl, rfl, rfl⟩
    rw [q5] at h5
    first | rw [Nat.min_eq_left (by omega)] | rw [Nat.min_eq_right (by omega)]; exact hA
  · refine iX12_firstOf_8 (iX12_firstOf_9 (iX12_firstOf_16 ?_))
    refine ⟨congrArg (fun z => some (Value.int z)) ?_, rfl, rfl, rfl⟩
    rw [q5] at h5
    first | rw [Nat.min_eq_left (by omega)] | rw [Nat.min_eq_right (by omega)]; exact hA
end
theorem inf_si {I : xI} {nB nS : Nat} {ls : lwT} (w : Wd I nB nS ls) : ∃ si, si ≤ 95 ∧ I 15 0 = nI si := by
  obtain ⟨j0, j1, j2, j3, j4, j5, j6, j7, j8, j9⟩ := w.2.2.2.2.2.2.2.2.1
  obtain ⟨si, h1, h2⟩ := nI_of2 (x := I 15 0) (M := 95) (n := 95) (by decide) (by grind) j9
  exact ⟨si, h1, h2⟩
/-- a shelf without a row of bytes, or a bad part: neither asks -/
def shBad (I : xI) (s p : Int32) : Prop := f_in p 0 1 = 0 ∨ f_in s 0 5 = 0 ∨ ∃ k : Nat, k < 6 ∧ s = nI k ∧ ¬ f_refB I (45 + 2 * k) = 0
theorem sh_cases (I : xI) (s p : Int32) : shBad I s p ∨ (¬ f_in p 0 1 = 0 ∧ ∃ k : Nat, k < 6 ∧ s = nI k ∧ f_refB I (45 + 2 * k) = 0) := by
  by_cases h1 : f_in p 0 1 = 0
  · exact Or.inl (Or.inl h1)
  by_cases h2 : f_in s 0 5 = 0
  · exact Or.inl (Or.inr (Or.inl h2))
  obtain ⟨k, hk, e⟩ := shelf_of h2
  by_cases h3 : f_refB I (45 + 2 * k) = 0
  · exact Or.inr ⟨h1, k, hk, e, h3⟩
  · exact Or.inl (Or.inr (Or.inr ⟨k, hk, e, h3⟩))
theorem takes_bad {I : xI} {J : xJ} {s p : Int32} (h : shBad I s p) (hp : ¬ f_in p 0 1 = 0) : SpecF 6 M_X11_takesAgenda [.ref 0, .int s] xG1 I J (some (.int 0)) I J := by
  rcases h with h | h | ⟨k, hk, rfl, hr⟩
  · exact absurd h hp
  · exact s_X11_takes_no h
  · exact s_X11_takes_ref hk hr
theorem mayAsk_bad {I i : xI} {J j : xJ} {s p : Int32} (h : Inv I J) (hi : Fq I i) (hj : Fj J j) (hb : shBad I s p) : SpecF 2 M_X12_mayAsk [.ref 57, .int s, .int p] xG1 i j (some (.int 0)) i j := by
  by_cases h2 : f_in s 0 5 = 0
  · exact s_X12_mayAsk_no h2 p
  obtain ⟨k, hk, rfl⟩ := shelf_of h2
  have := s_X12_mayAsk (inv_scr h hi hj) hk p
  rw [refB_fr hk hi] at this
  rcases hb with hb | hb | ⟨k2, hk2, e, hr⟩
  · rw [if_pos hb] at this; exact this
  · exact absurd hb h2
  · have e := (nI_eq (by omega) (by omega)).mp e
    subst e
    by_cases hp : f_in p 0 1 = 0
    · rw [if_pos hp] at this; exact this
    · rw [if_neg hp, if_neg hr] at this; exact this
theorem mayAsk_good {I i : xI} {J j : xJ} {k : Nat} {p : Int32} (h : Inv I J) (hi : Fq I i) (hj : Fj J j) (hk : k < 6) (hp : ¬ f_in p 0 1 = 0) (hr : f_refB I (45 + 2 * k) = 0) : SpecF 2 M_X12_mayAsk [.ref 57, .int (nI k), .int p] xG1 i j (some (.int 1)) i j := by
  have := s_X12_mayAsk (inv_scr h hi hj) hk p
  rw [refB_fr hk hi, if_neg hp, if_pos hr] at this
  exact this
theorem pow12 {n : Nat} (h : n ≤ 10) : 12 ^ n ≤ 12 ^ 10 ∧ 0 < 12 ^ n := ⟨Nat.pow_le_pow_right (by omega) h, Nat.pow_pos (by omega)⟩
theorem pp_passes : PP_passes Inv := by
  intro I J h s k p
  obtain ⟨nB, nS, ls, w⟩ := Wd.of h
  rcases sh_cases I s p with hbad | ⟨hp, sk, hsk, rfl, hr⟩
  · refine pairJ_q (v := -9223372036854775808) h ?_ (fun i j hi hj => ?_)
    · refine spec_of (L := [some (.ref 0), some (.int s), some (.int k), some (.int p)]) (by decide) (Nat.le_of_ble_eq_true rfl) rfl ?_
      by_cases hp : f_in p 0 1 = 0
      · refine iX11_passes_0 (iX11_passes_1 (s_X11_isPart _) (iX11_passes_4 (fun h4 => ?_) (fun h4 => by first | exact absurd (hp) h4 | exact absurd h4 (hp))))
        refine iX11_passes_30 (iX11_passes_33 ?_)
        exact ⟨rfl, rfl, Fq.rf, Fj.rf⟩
      · refine iX11_passes_0 (iX11_passes_1 (s_X11_isPart _) (iX11_passes_4 (fun h4 => absurd h4 (hp)) (fun h4 => ?_)))
        refine iX11_passes_7 (iX11_passes_8 (fun h8 => ?_) (fun h8 => ?_))
        · refine iX11_passes_30 (iX11_passes_33 ?_)
          exact ⟨rfl, rfl, Fq.rf, Fj.rf⟩
        · refine iX11_passes_11 (iX11_passes_12 (iX11_passes_13 (takes_bad hbad hp) (iX11_passes_16 (fun h16 => ?_) (fun h16 => by first | exact absurd (rfl) h16 | exact absurd h16 (rfl)))))
          refine iX11_passes_30 (iX11_passes_33 ?_)
          exact ⟨rfl, rfl, Fq.rf, Fj.rf⟩
    · refine spec_of (L := [some (.ref 57), some (.int s), some (.int k), some (.int p), none]) (by decide) (Nat.le_of_ble_eq_true rfl) rfl ?_
      refine iX12_passes_0 (iX12_passes_1 (iX12_passes_2 (iX12_passes_3 (mayAsk_bad h hi hj hbad) (iX12_passes_6 (fun h6 => ?_) (fun h6 => by first | exact absurd (rfl) h6 | exact absurd h6 (rfl))))))
      refine iX12_passes_19 (iX12_passes_22 ?_)
      exact ⟨rfl, rfl, Fq.rf, Fj.rf⟩
  obtain ⟨L, Bf, R⟩ := Rw.of h hsk hr
  have hA := ag_ok (Bf := Bf) (L := L) (nB := nB) (nS := nS)
  obtain ⟨si, hsi, e15⟩ := inf_si w
  have st := s_X11_takes w R hr
  generalize hAe : agL Bf L nB nS 10 0 = A at hA st
  have hA1 := hA.1
  have hpp := part_01 hp
  by_cases hk : k < 0 ∨ nI A.length ≤ k
  · refine pairJ_q (v := -9223372036854775808) h ?_ (fun i j hi hj => ?_)
    · refine spec_of (L := [some (.ref 0), some (.int (nI sk)), some (.int k), some (.int p)]) (by decide) (Nat.le_of_ble_eq_true rfl) rfl ?_
      refine iX11_passes_0 (iX11_passes_1 (s_X11_isPart _) (iX11_passes_4 (fun h4 => absurd h4 (hp)) (fun h4 => ?_)))
      refine iX11_passes_7 (iX11_passes_8 (fun h8 => ?_) (fun h8 => ?_))
      · refine iX11_passes_30 (iX11_passes_33 ?_)
        first | exact ⟨rfl, rfl, Fq.of hq3 (by decide), Fj.rf⟩ | exact ⟨rfl, rfl, Fq.rf, Fj.rf⟩
      · refine iX11_passes_11 (iX11_passes_12 (jX11_passes_13 st (fun r13 g13 I13 J13 hq => ?_)))
        obtain ⟨rfl, rfl, hq3, rfl, hq5⟩ := hq
        refine iX11_passes_16 (fun h16 => ?_) (fun h16 => ?_)
        · refine iX11_passes_30 (iX11_passes_33 ?_)
          first | exact ⟨rfl, rfl, Fq.of hq3 (by decide), Fj.rf⟩ | exact ⟨rfl, rfl, Fq.rf, Fj.rf⟩
        · refine iX11_passes_19 (iX11_passes_20 (iX11_passes_21 (iX11_passes_24 s_X0_size ?_)))
          rw [hq5.1]
          refine iX11_passes_27 (fun h27 => ?_) (fun h27 => ?_)
          · exfalso
            rcases hk with z | z
            · exact h8 z
            · exact absurd h27 (Int32.not_lt.mpr z)
          · refine iX11_passes_30 (iX11_passes_33 ?_)
            first | exact ⟨rfl, rfl, Fq.of hq3 (by decide), Fj.rf⟩ | exact ⟨rfl, rfl, Fq.rf, Fj.rf⟩
    · have stm := s_X12_layAgenda (w.fr hi) (R.fr hi hj)
      rw [hAe] at stm
      refine spec_of (L := [some (.ref 57), some (.int (nI sk)), some (.int k), some (.int p), none]) (by decide) (Nat.le_of_ble_eq_true rfl) rfl ?_
      refine iX12_passes_0 (iX12_passes_1 (iX12_passes_2 (iX12_passes_3 (mayAsk_good h hi hj hsk hp hr) (iX12_passes_6 (fun h6 => absurd h6 ((by decide : ¬ (1 : Int32) = 0))) (fun h6 => ?_)))))
      refine iX12_passes_9 (iX12_passes_10 (iX12_passes_11 (iX12_passes_13 (s_X12_in _ _ _) (iX12_passes_16 (fun h16 => ?_) (fun h16 => ?_)))))
      · refine iX12_passes_23 (iX12_passes_24 (jX12_passes_25 stm (fun r25 g25 I25 J25 hq => ?_)))
        obtain ⟨rfl, rfl, hq3, rfl, hq5⟩ := hq
        refine iX12_passes_28 (iX12_passes_29 (iX12_passes_30 ?_))
        rw [hq5.1]
        refine iX12_passes_33 (fun h33 => ?_) (fun h33 => ?_)
        · exfalso
          rcases hk with z | z
          · have := f_in_p h16
            grind
          · exact absurd h33 (Int32.not_lt.mpr z)
        · refine iX12_passes_36 (iX12_passes_39 ?_)
          first | exact ⟨rfl, rfl, hq3, Fj.rf⟩ | exact ⟨rfl, rfl, Fq.rf, Fj.rf⟩
      · refine iX12_passes_19 (iX12_passes_22 ?_)
        first | exact ⟨rfl, rfl, hq3, Fj.rf⟩ | exact ⟨rfl, rfl, Fq.rf, Fj.rf⟩
  have hk0 : ¬ k < 0 := fun z => hk (Or.inl z)
  have hk1 : ¬ nI A.length ≤ k := fun z => hk (Or.inr z)
  obtain ⟨n, hn, rfl⟩ := nI_of (x := k) hk0
  have hnA : n < A.length := Nat.not_le.mp fun z => hk1 (nI_le z hn)
  have hps := psR_le (I := I) (ls := ls) (A := A) (g := fun _ => true) hsi n
  obtain ⟨pw1, pw2⟩ := pow12 (n := n + 1) (by omega)
  refine pairJ_q (v := frac (psR I ls A (fun _ => true) si n) (12 ^ (n + 1)) p) h ?_ (fun i j hi hj => ?_)
  · refine spec_of (L := [some (.ref 0), some (.int (nI sk)), some (.int (nI n)), some (.int p)]) (by decide) (Nat.le_of_ble_eq_true rfl) rfl ?_
    have tail : ∀ I1, xFr [25, 26] I I1 → AgC I1 A → WP 1000 (1000000, 0, 0) none M_X11_passes (fun r g i j => r = some (.long (frac (psR I ls A (fun _ => true) si n) (12 ^ (n + 1)) p)) ∧ g = xG1 ∧ Fq I i ∧ Fj J j) 34 [some (.ref 0), some (.int (nI sk)), some (.int (nI n)), some (.int p)] [] xG1 I1 J := by
      intro I1 h1 hAg
      have f1 := Fq.of h1 (by decide)
      have sp := s_X0_passing (J0 := J) (w.fr f1) hA hAg hsi (by rw [h1 15 (by decide)]; exact e15) hnA
      rw [psR_fr f1] at sp
      have e1 : nI n + 1 = nI (n + 1) := nI_1 n
      refine iX11_passes_34 (iX11_passes_35 (iX11_passes_38 (jX11_passes_39 sp (fun r39 g39 I39 J39 hq => ?_))))
      obtain ⟨rfl, rfl, hq3, hq4⟩ := hq
      refine iX11_passes_42 (iX11_passes_43 (iX11_passes_44 ?_))
      rw [e1]
      refine iX11_passes_45 (s_X11_twelves (n := n + 1) (by omega)) (iX11_passes_48 (iX11_passes_49 (s_X11_partOf (by omega) pw2 (by omega) p) (iX11_passes_52 ?_)))
      exact ⟨rfl, rfl, f1.tr (Fq.of hq3 (by decide)), Fj.of hq4 (by decide)⟩
    refine iX11_passes_0 (iX11_passes_1 (s_X11_isPart _) (iX11_passes_4 (fun h4 => absurd h4 (hp)) (fun h4 => ?_)))
    refine iX11_passes_7 (iX11_passes_8 (fun h8 => absurd h8 (hk0)) (fun h8 => ?_))
    refine iX11_passes_11 (iX11_passes_12 (jX11_passes_13 st (fun r13 g13 I13 J13 hq => ?_)))
    obtain ⟨rfl, rfl, hq3, rfl, hq5⟩ := hq
    refine iX11_passes_16 (fun h16 => absurd h16 ((by decide : ¬ (1 : Int32) = 0))) (fun h16 => ?_)
    refine iX11_passes_19 (iX11_passes_20 (iX11_passes_21 (iX11_passes_24 s_X0_size ?_)))
    rw [hq5.1]
    refine iX11_passes_27 (fun h27 => ?_) (fun h27 => by first | exact absurd (nI_lt hnA (by omega)) h27 | exact absurd h27 (nI_lt hnA (by omega)))
    exact tail _ hq3 hq5
  · have stm := s_X12_layAgenda (w.fr hi) (R.fr hi hj)
    rw [hAe] at stm
    refine spec_of (L := [some (.ref 57), some (.int (nI sk)), some (.int (nI n)), some (.int p), none]) (by decide) (Nat.le_of_ble_eq_true rfl) rfl ?_
    have z13 : ¬ f_in (nI n) 0 9 = 0 := by rw [f_in_1 (v := nI n) (a := 0) (b := 9) (nI_pos' hn) (nI_le (b := 9) (by omega) (by omega))]; decide
    have tail : ∀ i1, Fq i i1 → AgM i1 A → WP 1000 (1000000, 0, 0) none M_X12_passes (fun r g i' j' => r = some (.long (frac (psR I ls A (fun _ => true) si n) (12 ^ (n + 1)) p)) ∧ g = xG1 ∧ Fq i i' ∧ Fj j j') 40 [some (.ref 57), some (.int (nI sk)), some (.int (nI n)), some (.int p), none] [] xG1 i1 j := by
      intro i1 h1 hAg
      have f1 := hi.tr h1
      have hAt := AtM.of hA hAg
      have w1 := w.fr f1
      have key : ∀ (m t : Nat), t + m = n + 1 → ∀ (i2 : xI) (j2 : xJ), StM i1 j ls A (fun _ => true) si t i2 j2 → (∀ t', t = t' + 1 → j2 57 35 = lN (psR i1 ls A (fun _ => true) si t')) → WP 1000 (1000000, 0, 0) none M_X12_passes (fun r g i' j' => r = some (.long (frac (psR I ls A (fun _ => true) si n) (12 ^ (n + 1)) p)) ∧ g = xG1 ∧ Fq i i' ∧ Fj j j') 47 [some (.ref 57), some (.int (nI sk)), some (.int (nI n)), some (.int p), some (.int (nI t))] [] xG1 i2 j2 := by
        intro m
        induction m with
        | zero =>
          intro t ht i2 j2 hS h35
          obtain rfl : t = n + 1 := by omega
          have h35 := h35 n rfl
          rw [psR_fr f1] at h35
          refine iX12_passes_47 (iX12_passes_49 (iX12_passes_50 (fun h50 => ?_) (fun h50 => by first | exact absurd (nI_lt (by omega) (by omega)) h50 | exact absurd h50 (nI_lt (by omega) (by omega)))))
          refine iX12_passes_71 (iX12_passes_72 ?_)
          rw [h35]
          refine iX12_passes_75 (iX12_passes_76 ?_)
          rw [hS.2.2.2.1]
          refine iX12_passes_79 (iX12_passes_80 (s_X12_lowest (by omega) pw2 (by omega) p hpp) (iX12_passes_83 ?_))
          exact ⟨rfl, rfl, h1.tr (Fq.of hS.1 (by decide)), Fj.of hS.2.1 (by decide)⟩
        | succ m ih =>
          intro t ht i2 j2 hS h35
          have ei : nI t + (1) = nI (t + 1) := nI_1 _
          have sp := m_stepR w1 hsi hAt (i := t) (by omega) hS
          have sp : Spec 15 (1000000, 0, 0) M_X12_goReading [.ref 57, .int (nI (10 * (aGet A t).1 + (aGet A t).2)), .int 0] xG1 i2 j2 (fun r g1 i' j' => r = none ∧ g1 = xG1 ∧ StM i1 j ls A (fun _ => true) si (t + 1) i' j' ∧ j' 57 35 = lN (psR i1 ls A (fun _ => true) si t) ∧ j' 57 36 = j2 57 36) := sp
          refine iX12_passes_47 (iX12_passes_49 (iX12_passes_50 (fun h50 => absurd h50 (nI_nlt (by omega) (by omega))) (fun h50 => ?_)))
          refine iX12_passes_53 (iX12_passes_54 (iX12_passes_55 (iX12_passes_58 (iX12_passes_60 (vp_in_nI (by omega) (by omega)) ?_))))
          rw [nI_clamp (by omega), hS.1 77 (by decide), (hAt.2 t (by omega)).1]
          refine iX12_passes_61 (jX12_passes_62 sp (fun r62 g62 I62 J62 hq => ?_))
          obtain ⟨rfl, rfl, hq3, hq4, hq5⟩ := hq
          refine iX12_passes_65 (iX12_passes_68 ?_)
          rw [ei]
          exact ih (t + 1) (by omega) _ _ hq3 (fun t' e => by rw [← Nat.succ.inj e]; exact hq4)
      refine iX12_passes_40 (jX12_passes_41 (m_begin (A := A) (g := fun _ => true) w1 hsi (by rw [f1.1 15 (by decide) (by decide)]; exact e15)) (fun r41 g41 I41 J41 hq => ?_))
      obtain ⟨rfl, rfl, hq3⟩ := hq
      refine iX12_passes_44 (iX12_passes_45 ?_)
      exact key (n + 1) 0 (by omega) _ _ hq3 (fun t' e => absurd e (by omega))
    refine iX12_passes_0 (iX12_passes_1 (iX12_passes_2 (iX12_passes_3 (mayAsk_good h hi hj hsk hp hr) (iX12_passes_6 (fun h6 => absurd h6 ((by decide : ¬ (1 : Int32) = 0))) (fun h6 => ?_)))))
    refine iX12_passes_9 (iX12_passes_10 (iX12_passes_11 (iX12_passes_13 (s_X12_in _ _ _) (iX12_passes_16 (fun h16 => ?_) (fun h16 => by first | exact absurd (z13) h16 | exact absurd h16 (z13))))))
    refine iX12_passes_23 (iX12_passes_24 (jX12_passes_25 stm (fun r25 g25 I25 J25 hq => ?_)))
    obtain ⟨rfl, rfl, hq3, rfl, hq5⟩ := hq
    refine iX12_passes_28 (iX12_passes_29 (iX12_passes_30 ?_))
    rw [hq5.1]
    refine iX12_passes_33 (fun h33 => ?_) (fun h33 => by first | exact absurd (nI_lt hnA (by omega)) h33 | exact absurd h33 (nI_lt hnA (by omega)))
    exact tail _ hq3 hq5
theorem min_n {n a : Nat} (hn : n < 2 ^ 31) (ha : a < 2 ^ 31) : f_min (nI n) (nI a) = nI (min n a) := by
  unfold f_min
  by_cases q : a < n
  · rw [if_pos (nI_lt q hn), Nat.min_eq_right (by omega)]
  · rw [if_neg (nI_nlt (a := a) (b := n) (by omega) ha), Nat.min_eq_left (by omega)]
theorem cnt_n {n : Int32} (h : ¬ f_in n 0 10 = 0) : ∃ m : Nat, m ≤ 10 ∧ n = nI m := by
  have := f_in_p h
  obtain ⟨m, h1, h2⟩ := nI_of2 (x := n) (M := 10) (n := 10) (by decide) (by grind) this.2
  exact ⟨m, h1, h2⟩
theorem pp_mean : PP_mean Inv := by
  intro I J h s n p
  obtain ⟨nB, nS, ls, w⟩ := Wd.of h
  rcases sh_cases I s p with hbad | ⟨hp, sk, hsk, rfl, hr⟩
  · refine pairJ_q (v := -9223372036854775808) h ?_ (fun i j hi hj => ?_)
    · refine spec_of (L := [some (.ref 0), some (.int s), some (.int n), some (.int p), none]) (by decide) (Nat.le_of_ble_eq_true rfl) rfl ?_
      by_cases hp : f_in p 0 1 = 0
      · refine iX11_mean_0 (iX11_mean_1 (s_X11_isPart _) (iX11_mean_4 (fun h4 => ?_) (fun h4 => by first | exact absurd (hp) h4 | exact absurd h4 (hp))))
        refine iX11_mean_22 (iX11_mean_25 ?_)
        exact ⟨rfl, rfl, Fq.rf, Fj.rf⟩
      · refine iX11_mean_0 (iX11_mean_1 (s_X11_isPart _) (iX11_mean_4 (fun h4 => absurd h4 (hp)) (fun h4 => ?_)))
        refine iX11_mean_7 (iX11_mean_8 (s_X11_isCount _) (iX11_mean_11 (fun h11 => ?_) (fun h11 => ?_)))
        · refine iX11_mean_22 (iX11_mean_25 ?_)
          exact ⟨rfl, rfl, Fq.rf, Fj.rf⟩
        · refine iX11_mean_14 (iX11_mean_15 (iX11_mean_16 (takes_bad hbad hp) (iX11_mean_19 (fun h19 => absurd h19 ((fun z => z rfl))) (fun h19 => ?_))))
          refine iX11_mean_22 (iX11_mean_25 ?_)
          exact ⟨rfl, rfl, Fq.rf, Fj.rf⟩
    · refine spec_of (L := [some (.ref 57), some (.int s), some (.int n), some (.int p)]) (by decide) (Nat.le_of_ble_eq_true rfl) rfl ?_
      refine iX12_mean_0 (iX12_mean_1 (iX12_mean_2 (iX12_mean_3 (mayAsk_bad h hi hj hbad) (iX12_mean_6 (fun h6 => ?_) (fun h6 => by first | exact absurd (rfl) h6 | exact absurd h6 (rfl))))))
      refine iX12_mean_19 (iX12_mean_22 ?_)
      exact ⟨rfl, rfl, Fq.rf, Fj.rf⟩
  by_cases hn : f_in n 0 10 = 0
  · refine pairJ_q (v := -9223372036854775808) h ?_ (fun i j hi hj => ?_)
    · refine spec_of (L := [some (.ref 0), some (.int (nI sk)), some (.int n), some (.int p), none]) (by decide) (Nat.le_of_ble_eq_true rfl) rfl ?_
      refine iX11_mean_0 (iX11_mean_1 (s_X11_isPart _) (iX11_mean_4 (fun h4 => absurd h4 (hp)) (fun h4 => ?_)))
      refine iX11_mean_7 (iX11_mean_8 (s_X11_isCount _) (iX11_mean_11 (fun h11 => ?_) (fun h11 => by first | exact absurd (hn) h11 | exact absurd h11 (hn))))
      refine iX11_mean_22 (iX11_mean_25 ?_)
      exact ⟨rfl, rfl, Fq.rf, Fj.rf⟩
    · refine spec_of (L := [some (.ref 57), some (.int (nI sk)), some (.int n), some (.int p)]) (by decide) (Nat.le_of_ble_eq_true rfl) rfl ?_
      refine iX12_mean_0 (iX12_mean_1 (iX12_mean_2 (iX12_mean_3 (mayAsk_good h hi hj hsk hp hr) (iX12_mean_6 (fun h6 => absurd h6 ((by decide : ¬ (1 : Int32) = 0))) (fun h6 => ?_)))))
      refine iX12_mean_9 (iX12_mean_10 (iX12_mean_11 (iX12_mean_13 (s_X12_in _ _ _) (iX12_mean_16 (fun h16 => absurd h16 (fun z => z hn)) (fun h16 => ?_)))))
      refine iX12_mean_19 (iX12_mean_22 ?_)
      exact ⟨rfl, rfl, Fq.rf, Fj.rf⟩
  obtain ⟨L, Bf, R⟩ := Rw.of h hsk hr
  have hA := ag_ok (Bf := Bf) (L := L) (nB := nB) (nS := nS)
  obtain ⟨si, hsi, e15⟩ := inf_si w
  have st := s_X11_takes w R hr
  generalize hAe : agL Bf L nB nS 10 0 = A at hA st
  have hA1 := hA.1
  have hpp := part_01 hp
  obtain ⟨N, hN, rfl⟩ := cnt_n hn
  have hm1 : min N A.length ≤ A.length := Nat.min_le_right _ _
  generalize hM : min N A.length = M at hm1
  have hwo := woR_le (I := I) (ls := ls) (A := A) hsi (fun i hi => by
    by_cases z : (aGet A i).1 < 10
    · exact (fB_b w.2.2.2.2.2.2.1 z).2.2.2.1
    · exfalso
      by_cases z2 : i < A.length
      · have := (hA.2 _ (List.mem_of_getElem? (aGet_some z2))).1
        have := w.2.1
        omega
      · apply z
        unfold aGet
        rw [List.getD, List.getElem?_eq_none (by omega)]
        decide) M (by omega)
  obtain ⟨pw1, pw2⟩ := pow12 (n := M) (by omega)
  have hwo2 : woR I ls A si M ≤ 990 * 12 ^ 10 := Nat.le_trans hwo (Nat.mul_le_mul (by omega) pw1)
  refine pairJ_q (v := frac (woR I ls A si M) (12 ^ M) p) h ?_ (fun i j hi hj => ?_)
  · refine spec_of (L := [some (.ref 0), some (.int (nI sk)), some (.int (nI N)), some (.int p), none]) (by decide) (Nat.le_of_ble_eq_true rfl) rfl ?_
    have tail : ∀ I1, xFr [25, 26] I I1 → AgC I1 A → WP 1000 (1000000, 0, 0) none M_X11_mean (fun r g i j => r = some (.long (frac (woR I ls A si M) (12 ^ M) p)) ∧ g = xG1 ∧ Fq I i ∧ Fj J j) 26 [some (.ref 0), some (.int (nI sk)), some (.int (nI N)), some (.int p), none] [] xG1 I1 J := by
      intro I1 h1 hAg
      have f1 := Fq.of h1 (by decide)
      have sp := s_X0_worthOf (J0 := J) (w.fr f1) hA hAg hsi (by rw [h1 15 (by decide)]; exact e15) hm1
      rw [woR_fr f1] at sp
      refine iX11_mean_26 (iX11_mean_27 (iX11_mean_28 (iX11_mean_31 s_X0_size ?_)))
      rw [hAg.1]
      refine iX11_mean_34 (s_J9_min _ _) ?_
      rw [min_n (by omega) (by omega), hM]
      refine iX11_mean_37 (iX11_mean_39 (iX11_mean_40 (iX11_mean_43 (jX11_mean_45 sp (fun r45 g45 I45 J45 hq => ?_)))))
      obtain ⟨rfl, rfl, hq3, hq4⟩ := hq
      refine iX11_mean_48 (iX11_mean_50 (s_X11_twelves (n := M) (by omega)) (iX11_mean_53 (iX11_mean_54 (s_X11_partOf (by omega) pw2 (by omega) p) (iX11_mean_57 ?_))))
      exact ⟨rfl, rfl, f1.tr (Fq.of hq3 (by decide)), Fj.of hq4 (by decide)⟩
    refine iX11_mean_0 (iX11_mean_1 (s_X11_isPart _) (iX11_mean_4 (fun h4 => absurd h4 (hp)) (fun h4 => ?_)))
    refine iX11_mean_7 (iX11_mean_8 (s_X11_isCount _) (iX11_mean_11 (fun h11 => absurd h11 (hn)) (fun h11 => ?_)))
    refine iX11_mean_14 (iX11_mean_15 (jX11_mean_16 st (fun r16 g16 I16 J16 hq => ?_)))
    obtain ⟨rfl, rfl, hq3, rfl, hq5⟩ := hq
    refine iX11_mean_19 (fun h19 => ?_) (fun h19 => by first | exact absurd ((by decide : ¬ (1 : Int32) = 0)) h19 | exact absurd h19 ((by decide : ¬ (1 : Int32) = 0)))
    exact tail _ hq3 hq5
  · have stm := s_X12_layAgenda (w.fr hi) (R.fr hi hj)
    rw [hAe] at stm
    refine spec_of (L := [some (.ref 57), some (.int (nI sk)), some (.int (nI N)), some (.int p)]) (by decide) (Nat.le_of_ble_eq_true rfl) rfl ?_
    have tail : ∀ i1, Fq i i1 → AgM i1 A → WP 1000 (1000000, 0, 0) none M_X12_mean (fun r g i' j' => r = some (.long (frac (woR I ls A si M) (12 ^ M) p)) ∧ g = xG1 ∧ Fq i i' ∧ Fj j j') 28 [some (.ref 57), some (.int (nI sk)), some (.int (nI N)), some (.int p)] [] xG1 i1 j := by
      intro i1 h1 hAg
      have f1 := hi.tr h1
      have hAt0 := AtM.of hA hAg
      have hAt : AtM i1 nB nS A M := ⟨by omega, fun i hi => hAt0.2 i (by omega)⟩
      have sp := s_X12_goMean (J0 := j) (w.fr f1) hsi (by rw [f1.1 15 (by decide) (by decide)]; exact e15) hAt
      rw [woR_fr f1] at sp
      refine iX12_mean_28 (iX12_mean_29 (iX12_mean_30 (iX12_mean_31 (s_X12_firstOf (by omega) (by omega) hAg.1) ?_)))
      rw [hM]
      refine jX12_mean_34 sp (fun r34 g34 I34 J34 hq => ?_)
      obtain ⟨rfl, rfl, hq3, hq4, hq5, hq6, hq7⟩ := hq
      refine iX12_mean_37 (iX12_mean_38 ?_)
      rw [hq5]
      refine iX12_mean_41 (iX12_mean_42 ?_)
      rw [hq6]
      refine iX12_mean_45 (iX12_mean_46 (s_X12_lowest (by omega) pw2 (by omega) p hpp) (iX12_mean_49 ?_))
      exact ⟨rfl, rfl, h1.tr (Fq.of hq3 (by decide)), Fj.of hq4 (by decide)⟩
    refine iX12_mean_0 (iX12_mean_1 (iX12_mean_2 (iX12_mean_3 (mayAsk_good h hi hj hsk hp hr) (iX12_mean_6 (fun h6 => absurd h6 ((by decide : ¬ (1 : Int32) = 0))) (fun h6 => ?_)))))
    refine iX12_mean_9 (iX12_mean_10 (iX12_mean_11 (iX12_mean_13 (s_X12_in _ _ _) (iX12_mean_16 (fun h16 => ?_) (fun h16 => by first | exact absurd (hn) h16 | exact absurd h16 (hn))))))
    refine iX12_mean_23 (iX12_mean_24 (jX12_mean_25 stm (fun r25 g25 I25 J25 hq => ?_)))
    obtain ⟨rfl, rfl, hq3, rfl, hq5⟩ := hq
    exact tail _ hq3 hq5
theorem pp_quiet : PP_quiet Inv := by
  intro I J h s n k p
  obtain ⟨nB, nS, ls, w⟩ := Wd.of h
  rcases sh_cases I s p with hbad | ⟨hp, sk, hsk, rfl, hr⟩
  · refine pairJ_q (v := -9223372036854775808) h ?_ (fun i j hi hj => ?_)
    · refine spec_of (L := [some (.ref 0), some (.int s), some (.int n), some (.int k), some (.int p), none]) (by decide) (Nat.le_of_ble_eq_true rfl) rfl ?_
      by_cases hp : f_in p 0 1 = 0
      · refine iX11_quiet_0 (iX11_quiet_2 (s_X11_isPart _) (iX11_quiet_5 (fun h5 => ?_) (fun h5 => by first | exact absurd (hp) h5 | exact absurd h5 (hp))))
        refine iX11_quiet_30 (iX11_quiet_33 ?_)
        exact ⟨rfl, rfl, Fq.rf, Fj.rf⟩
      · refine iX11_quiet_0 (iX11_quiet_2 (s_X11_isPart _) (iX11_quiet_5 (fun h5 => absurd h5 (hp)) (fun h5 => ?_)))
        refine iX11_quiet_8 (iX11_quiet_9 (s_X11_isCount _) (iX11_quiet_12 (fun h12 => ?_) (fun h12 => ?_)))
        · refine iX11_quiet_30 (iX11_quiet_33 ?_)
          exact ⟨rfl, rfl, Fq.rf, Fj.rf⟩
        · refine iX11_quiet_15 (iX11_quiet_16 (s_X11_isCount _) (iX11_quiet_19 (fun h19 => ?_) (fun h19 => ?_)))
          · refine iX11_quiet_30 (iX11_quiet_33 ?_)
            exact ⟨rfl, rfl, Fq.rf, Fj.rf⟩
          · refine iX11_quiet_22 (iX11_quiet_23 (iX11_quiet_24 (takes_bad hbad hp) (iX11_quiet_27 (fun h27 => absurd h27 ((fun z => z rfl))) (fun h27 => ?_))))
            refine iX11_quiet_30 (iX11_quiet_33 ?_)
            exact ⟨rfl, rfl, Fq.rf, Fj.rf⟩
    · refine spec_of (L := [some (.ref 57), some (.int s), some (.int n), some (.int k), some (.int p), none]) (by decide) (Nat.le_of_ble_eq_true rfl) rfl ?_
      refine iX12_quiet_0 (iX12_quiet_1 (iX12_quiet_2 (iX12_quiet_4 (mayAsk_bad h hi hj hbad) (iX12_quiet_7 (fun h7 => ?_) (fun h7 => by first | exact absurd (rfl) h7 | exact absurd h7 (rfl))))))
      refine iX12_quiet_30 (iX12_quiet_33 ?_)
      exact ⟨rfl, rfl, Fq.rf, Fj.rf⟩
  by_cases hn : f_in n 0 10 = 0 ∨ f_in k 0 10 = 0
  · refine pairJ_q (v := -9223372036854775808) h ?_ (fun i j hi hj => ?_)
    · refine spec_of (L := [some (.ref 0), some (.int (nI sk)), some (.int n), some (.int k), some (.int p), none]) (by decide) (Nat.le_of_ble_eq_true rfl) rfl ?_
      refine iX11_quiet_0 (iX11_quiet_2 (s_X11_isPart _) (iX11_quiet_5 (fun h5 => absurd h5 (hp)) (fun h5 => ?_)))
      refine iX11_quiet_8 (iX11_quiet_9 (s_X11_isCount _) (iX11_quiet_12 (fun h12 => ?_) (fun h12 => ?_)))
      · refine iX11_quiet_30 (iX11_quiet_33 ?_)
        exact ⟨rfl, rfl, Fq.rf, Fj.rf⟩
      · refine iX11_quiet_15 (iX11_quiet_16 (s_X11_isCount _) (iX11_quiet_19 (fun h19 => ?_) (fun h19 => ?_)))
        · refine iX11_quiet_30 (iX11_quiet_33 ?_)
          exact ⟨rfl, rfl, Fq.rf, Fj.rf⟩
        · exfalso
          rcases hn with z | z
          · exact h12 z
          · exact h19 z
    · refine spec_of (L := [some (.ref 57), some (.int (nI sk)), some (.int n), some (.int k), some (.int p), none]) (by decide) (Nat.le_of_ble_eq_true rfl) rfl ?_
      refine iX12_quiet_0 (iX12_quiet_1 (iX12_quiet_2 (iX12_quiet_4 (mayAsk_good h hi hj hsk hp hr) (iX12_quiet_7 (fun h7 => absurd h7 ((by decide : ¬ (1 : Int32) = 0))) (fun h7 => ?_)))))
      refine iX12_quiet_10 (iX12_quiet_11 (iX12_quiet_12 (iX12_quiet_14 (s_X12_in _ _ _) (iX12_quiet_17 (fun h17 => ?_) (fun h17 => ?_)))))
      · refine iX12_quiet_30 (iX12_quiet_33 ?_)
        exact ⟨rfl, rfl, Fq.rf, Fj.rf⟩
      · refine iX12_quiet_20 (iX12_quiet_21 (iX12_quiet_22 (iX12_quiet_24 (s_X12_in _ _ _) (iX12_quiet_27 (fun h27 => ?_) (fun h27 => ?_)))))
        · exfalso
          rcases hn with z | z
          · exact h17 z
          · exact h27 z
        · refine iX12_quiet_30 (iX12_quiet_33 ?_)
          exact ⟨rfl, rfl, Fq.rf, Fj.rf⟩
  have hn1 : ¬ f_in n 0 10 = 0 := fun z => hn (Or.inl z)
  have hk1 : ¬ f_in k 0 10 = 0 := fun z => hn (Or.inr z)
  obtain ⟨L, Bf, R⟩ := Rw.of h hsk hr
  have hA := ag_ok (Bf := Bf) (L := L) (nB := nB) (nS := nS)
  obtain ⟨si, hsi, e15⟩ := inf_si w
  have st := s_X11_takes w R hr
  generalize hAe : agL Bf L nB nS 10 0 = A at hA st
  have hA1 := hA.1
  have hpp := part_01 hp
  obtain ⟨N, hN, rfl⟩ := cnt_n hn1
  obtain ⟨K, hK, rfl⟩ := cnt_n hk1
  have hm1 : min N A.length ≤ A.length := Nat.min_le_right _ _
  generalize hM : min N A.length = M at hm1
  obtain ⟨pw1, pw2⟩ := pow12 (n := M) (by omega)
  have hcl := (clR_ok (I := I) (ls := ls) (A := A) (g := fun j => decide (j < K)) hsi M).2.1
  refine pairJ_q (v := frac (lsum (clR I ls A (fun j => decide (j < K)) si M) (fun _ => 1)) (12 ^ M) p) h ?_ (fun i j hi hj => ?_)
  · refine spec_of (L := [some (.ref 0), some (.int (nI sk)), some (.int (nI N)), some (.int (nI K)), some (.int p), none]) (by decide) (Nat.le_of_ble_eq_true rfl) rfl ?_
    have tail : ∀ I1, xFr [25, 26] I I1 → AgC I1 A → WP 1000 (1000000, 0, 0) none M_X11_quiet (fun r g i j => r = some (.long (frac (lsum (clR I ls A (fun j => decide (j < K)) si M) (fun _ => 1)) (12 ^ M) p)) ∧ g = xG1 ∧ Fq I i ∧ Fj J j) 34 [some (.ref 0), some (.int (nI sk)), some (.int (nI N)), some (.int (nI K)), some (.int p), none] [] xG1 I1 J := by
      intro I1 h1 hAg
      have f1 := Fq.of h1 (by decide)
      have sp := s_X0_quietFrom (J0 := J) (w.fr f1) hA hAg hsi (by rw [h1 15 (by decide)]; exact e15) (k := K) hm1 hK
      rw [clR_fr f1] at sp
      refine iX11_quiet_34 (iX11_quiet_35 (iX11_quiet_36 (iX11_quiet_39 s_X0_size ?_)))
      rw [hAg.1]
      refine iX11_quiet_42 (s_J9_min _ _) ?_
      rw [min_n (by omega) (by omega), hM]
      refine iX11_quiet_45 (iX11_quiet_47 (iX11_quiet_48 (iX11_quiet_51 (iX11_quiet_52 (jX11_quiet_54 sp (fun r54 g54 I54 J54 hq => ?_))))))
      obtain ⟨rfl, rfl, hq3, hq4⟩ := hq
      refine iX11_quiet_57 (iX11_quiet_59 (s_X11_twelves (n := M) (by omega)) (iX11_quiet_62 (iX11_quiet_64 (s_X11_partOf (by omega) pw2 (by omega) p) (iX11_quiet_67 ?_))))
      exact ⟨rfl, rfl, f1.tr (Fq.of hq3 (by decide)), Fj.of hq4 (by decide)⟩
    refine iX11_quiet_0 (iX11_quiet_2 (s_X11_isPart _) (iX11_quiet_5 (fun h5 => absurd h5 (hp)) (fun h5 => ?_)))
    refine iX11_quiet_8 (iX11_quiet_9 (s_X11_isCount _) (iX11_quiet_12 (fun h12 => absurd h12 (hn1)) (fun h12 => ?_)))
    refine iX11_quiet_15 (iX11_quiet_16 (s_X11_isCount _) (iX11_quiet_19 (fun h19 => absurd h19 (hk1)) (fun h19 => ?_)))
    refine iX11_quiet_22 (iX11_quiet_23 (jX11_quiet_24 st (fun r24 g24 I24 J24 hq => ?_)))
    obtain ⟨rfl, rfl, hq3, rfl, hq5⟩ := hq
    refine iX11_quiet_27 (fun h27 => ?_) (fun h27 => by first | exact absurd ((by decide : ¬ (1 : Int32) = 0)) h27 | exact absurd h27 ((by decide : ¬ (1 : Int32) = 0)))
    exact tail _ hq3 hq5
  · have stm := s_X12_layAgenda (w.fr hi) (R.fr hi hj)
    rw [hAe] at stm
    refine spec_of (L := [some (.ref 57), some (.int (nI sk)), some (.int (nI N)), some (.int (nI K)), some (.int p), none]) (by decide) (Nat.le_of_ble_eq_true rfl) rfl ?_
    have tail : ∀ i1, Fq i i1 → AgM i1 A → WP 1000 (1000000, 0, 0) none M_X12_quiet (fun r g i' j' => r = some (.long (frac (lsum (clR I ls A (fun j => decide (j < K)) si M) (fun _ => 1)) (12 ^ M) p)) ∧ g = xG1 ∧ Fq i i' ∧ Fj j j') 39 [some (.ref 57), some (.int (nI sk)), some (.int (nI N)), some (.int (nI K)), some (.int p), none] [] xG1 i1 j := by
      intro i1 h1 hAg
      have f1 := hi.tr h1
      have hAt := AtM.of hA hAg
      have w1 := w.fr f1
      have key : ∀ (m t : Nat), t + m = M → ∀ (i2 : xI) (j2 : xJ), StM i1 j ls A (fun j => decide (j < K)) si t i2 j2 → WP 1000 (1000000, 0, 0) none M_X12_quiet (fun r g i' j' => r = some (.long (frac (lsum (clR I ls A (fun j => decide (j < K)) si M) (fun _ => 1)) (12 ^ M) p)) ∧ g = xG1 ∧ Fq i i' ∧ Fj j j') 46 [some (.ref 57), some (.int (nI sk)), some (.int (nI N)), some (.int (nI K)), some (.int p), some (.int (nI t))] [] xG1 i2 j2 := by
        intro m
        induction m with
        | zero =>
          intro t ht i2 j2 hS
          obtain rfl : t = M := by omega
          have hAg2 : i2 57 31 = nI A.length := by rw [hS.1 57 (by decide)]; exact hAg.1
          have hcl3 := (clR_ok (I := i1) (ls := ls) (A := A) (g := fun j => decide (j < K)) hsi t).2.2
          have sw := s_X12_allWeight (I0 := i2) (J0 := j2) hS.2.2.1
          rw [gsum_lsum _ 96 _ (fun p hp => by have := hcl3 p hp; omega), clR_fr f1] at sw
          refine iX12_quiet_46 (iX12_quiet_48 (iX12_quiet_49 (iX12_quiet_50 (s_X12_firstOf (by omega) (by omega) hAg2) ?_)))
          rw [hM]
          refine iX12_quiet_53 (fun h53 => ?_) (fun h53 => by first | exact absurd (Int32.le_refl _) h53 | exact absurd h53 (Int32.le_refl _))
          refine iX12_quiet_84 (iX12_quiet_85 sw (iX12_quiet_88 (iX12_quiet_89 ?_)))
          rw [hS.2.2.2.1]
          refine iX12_quiet_92 (iX12_quiet_94 (s_X12_lowest (by omega) pw2 (by omega) p hpp) (iX12_quiet_97 ?_))
          exact ⟨rfl, rfl, h1.tr (Fq.of hS.1 (by decide)), Fj.of hS.2.1 (by decide)⟩
        | succ m ih =>
          intro t ht i2 j2 hS
          have hAg2 : i2 57 31 = nI A.length := by rw [hS.1 57 (by decide)]; exact hAg.1
          have ei : nI t + (1) = nI (t + 1) := nI_1 _
          have sp := m_stepR w1 hsi hAt (i := t) (by omega) hS
          have e77 : i2 77 (nI t).toNatClampNeg = nI (10 * (aGet A t).1 + (aGet A t).2) := by rw [nI_clamp (by omega), hS.1 77 (by decide)]; exact (hAt.2 t (by omega)).1
          by_cases q : t < K
          · rw [show bI (!decide (t < K)) = 0 by rw [decide_eq_true q]; rfl] at sp
            refine iX12_quiet_46 (iX12_quiet_48 (iX12_quiet_49 (iX12_quiet_50 (s_X12_firstOf (by omega) (by omega) hAg2) ?_)))
            rw [hM]
            refine iX12_quiet_53 (fun h53 => absurd h53 (nI_ge (by omega) (by omega))) (fun h53 => ?_)
            refine iX12_quiet_56 (iX12_quiet_57 (iX12_quiet_58 (iX12_quiet_61 (iX12_quiet_63 (vp_in_nI (by omega) (by omega)) ?_))))
            rw [e77]
            refine iX12_quiet_64 (iX12_quiet_66 (iX12_quiet_67 (fun h67 => ?_) (fun h67 => by first | exact absurd (nI_lt q (by omega)) h67 | exact absurd h67 (nI_lt q (by omega)))))
            refine iX12_quiet_74 (jX12_quiet_75 sp (fun r75 g75 I75 J75 hq => ?_))
            obtain ⟨rfl, rfl, hq3, hq4, hq5⟩ := hq
            refine iX12_quiet_78 (iX12_quiet_81 ?_)
            rw [ei]
            exact ih (t + 1) (by omega) _ _ hq3
          · rw [show bI (!decide (t < K)) = 1 by rw [decide_eq_false q]; rfl] at sp
            refine iX12_quiet_46 (iX12_quiet_48 (iX12_quiet_49 (iX12_quiet_50 (s_X12_firstOf (by omega) (by omega) hAg2) ?_)))
            rw [hM]
            refine iX12_quiet_53 (fun h53 => absurd h53 (nI_ge (by omega) (by omega))) (fun h53 => ?_)
            refine iX12_quiet_56 (iX12_quiet_57 (iX12_quiet_58 (iX12_quiet_61 (iX12_quiet_63 (vp_in_nI (by omega) (by omega)) ?_))))
            rw [e77]
            refine iX12_quiet_64 (iX12_quiet_66 (iX12_quiet_67 (fun h67 => absurd h67 (nI_nlt (a := t) (b := K) (by omega) (by omega))) (fun h67 => ?_)))
            refine iX12_quiet_70 (iX12_quiet_71 (jX12_quiet_75 sp (fun r75 g75 I75 J75 hq => ?_)))
            obtain ⟨rfl, rfl, hq3, hq4, hq5⟩ := hq
            refine iX12_quiet_78 (iX12_quiet_81 ?_)
            rw [ei]
            exact ih (t + 1) (by omega) _ _ hq3
      refine iX12_quiet_39 (jX12_quiet_40 (m_begin (A := A) (g := fun j => decide (j < K)) w1 hsi (by rw [f1.1 15 (by decide) (by decide)]; exact e15)) (fun r40 g40 I40 J40 hq => ?_))
      obtain ⟨rfl, rfl, hq3⟩ := hq
      refine iX12_quiet_43 (iX12_quiet_44 ?_)
      exact key M 0 (by omega) _ _ hq3
    refine iX12_quiet_0 (iX12_quiet_1 (iX12_quiet_2 (iX12_quiet_4 (mayAsk_good h hi hj hsk hp hr) (iX12_quiet_7 (fun h7 => absurd h7 ((by decide : ¬ (1 : Int32) = 0))) (fun h7 => ?_)))))
    refine iX12_quiet_10 (iX12_quiet_11 (iX12_quiet_12 (iX12_quiet_14 (s_X12_in _ _ _) (iX12_quiet_17 (fun h17 => absurd h17 (hn1)) (fun h17 => ?_)))))
    refine iX12_quiet_20 (iX12_quiet_21 (iX12_quiet_22 (iX12_quiet_24 (s_X12_in _ _ _) (iX12_quiet_27 (fun h27 => ?_) (fun h27 => by first | exact absurd (hk1) h27 | exact absurd h27 (hk1))))))
    refine iX12_quiet_34 (iX12_quiet_35 (jX12_quiet_36 stm (fun r36 g36 I36 J36 hq => ?_)))
    obtain ⟨rfl, rfl, hq3, rfl, hq5⟩ := hq
    exact tail _ hq3 hq5
