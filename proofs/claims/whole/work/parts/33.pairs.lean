/-! ===== pairs ===== -/
theorem pair_of {Inv : xI → xJ → Prop} {Mc Mm : xM} {av : List Value} {I I1 I2 : xI} {J J1 J2 : xJ} {v v' : Int32} (hc : SpecF 1000 Mc (.ref 0 :: av) xG1 I J (some (.int v)) I1 J1) (hm : SpecF 1000 Mm (.ref 57 :: av) xG1 I1 J1 (some (.int v')) I2 J2) (he : v' = v) (hI : Inv I2 J2) : PairI Inv Mc Mm av I J := by
  subst he
  exact ⟨v', fun i j => i = I1 ∧ j = J1, hc, fun i j h => by
    obtain ⟨rfl, rfl⟩ := h
    refine Spec.weaken (sc := none) hm (fun r g I J h => ?_)
    obtain ⟨rfl, rfl, rfl, rfl⟩ := h
    exact ⟨rfl, rfl, hI⟩⟩
theorem pairJ_of {Inv : xI → xJ → Prop} {Mc Mm : xM} {av : List Value} {I I1 I2 : xI} {J J1 J2 : xJ} {v v' : Int64} (hc : SpecF 1000 Mc (.ref 0 :: av) xG1 I J (some (.long v)) I1 J1) (hm : SpecF 1000 Mm (.ref 57 :: av) xG1 I1 J1 (some (.long v')) I2 J2) (he : v' = v) (hI : Inv I2 J2) : PairJ Inv Mc Mm av I J := by
  subst he
  exact ⟨v', fun i j => i = I1 ∧ j = J1, hc, fun i j h => by
    obtain ⟨rfl, rfl⟩ := h
    refine Spec.weaken (sc := none) hm (fun r g I J h => ?_)
    obtain ⟨rfl, rfl, rfl, rfl⟩ := h
    exact ⟨rfl, rfl, hI⟩⟩
theorem div10_in {x : Int32} (h1 : 10 ≤ x) (h2 : x ≤ 99) : 1 ≤ x / 10 ∧ x / 10 ≤ 9 ∧ 0 ≤ x - x / 10 * 10 ∧ x - x / 10 * 10 ≤ 9 := by
  obtain ⟨n, hn, rfl⟩ := nI_of (x := x) (by grind)
  have e1 : 10 ≤ n := (nI_leI (a := 10) (b := n) (by omega) hn).mp h1
  have e2 : n ≤ 99 := (nI_leI (a := n) (b := 99) hn (by omega)).mp h2
  have d1 : nI n / 10 = nI (n / 10) := pk_div (d := 10) hn (by omega) (by omega)
  have d2 : nI n - nI n / 10 * 10 = nI (n % 10) := pk_rem (d := 10) hn (by omega) (by omega)
  rw [d2, d1]
  refine ⟨nI_le (a := 1) (by omega) (by omega), nI_le (b := 9) (by omega) (by omega), nI_pos' (by omega), nI_le (b := 9) (by omega) (by omega)⟩
/-- a walk's head -/
theorem f_in_p {v a b : Int32} (h : ¬ f_in v a b = 0) : a ≤ v ∧ v ≤ b := by unfold f_in at h; grind
theorem f_in_n {v a b : Int32} (h : f_in v a b = 0) : v < a ∨ b < v := by unfold f_in at h; grind
theorem f_in_1 {v a b : Int32} (h : a ≤ v) (h2 : v ≤ b) : f_in v a b = 1 := by unfold f_in; grind
theorem clamp_nI {x : Int32} (h : 0 ≤ x) : nI x.toNatClampNeg = x := by
  obtain ⟨n, hn, rfl⟩ := nI_of (x := x) (by grind)
  rw [nI_clamp hn]
theorem clamp_lt' {x N : Int32} {n : Nat} (hN : N.toInt = (n : Int)) (h0 : 0 ≤ x) (h1 : x < N) : x.toNatClampNeg < n := clamp_lt hN (by grind) h1
theorem f_has_mono {I I' : xI} {n w : Int32} (h : f_has I n w = 1) (h2 : I 1 2 ≤ I' 1 2) (h3 : I 1 3 ≤ I' 1 3) : f_has I' n w = 1 := by
  unfold f_has at h ⊢
  by_cases h0 : w < 0 ∨ 9 < w ∨ n < 0
  · rw [if_pos h0] at h; exact absurd h (by decide)
  rw [if_neg h0] at h ⊢
  by_cases h1 : w ≤ 3
  · rw [if_pos h1] at h ⊢; grind
  rw [if_neg h1] at h ⊢
  by_cases h5 : w ≤ 5
  · rw [if_pos h5] at h ⊢; grind
  rw [if_neg h5] at h ⊢
  exact h
theorem ivChg_frame {I I' : xI} (h : ivChg I) (r : I' 20 = I 20 ∧ I' 21 = I 21 ∧ I' 22 = I 22 ∧ I' 23 = I 23 ∧ I' 24 = I 24 ∧ I' 65 = I 65 ∧ I' 66 = I 66 ∧ I' 67 = I 67 ∧ I' 68 = I 68) (h1 : I' 57 10 = I 57 10) (h2 : I' 57 11 = I 57 11) (h3 : I 1 2 ≤ I' 1 2) (h4 : I 1 3 ≤ I' 1 3) : ivChg I' := by
  obtain ⟨r1, r2, r3, r4, r5, r6, r7, r8, r9⟩ := r
  unfold ivChg at h ⊢
  rw [r1, r2, r3, r4, r5, r6, r7, r8, r9, h1, h2]
  obtain ⟨b1, b2, b3, b4, b5, b6⟩ := h
  refine ⟨b1, b2, b3, b4, b5, fun k hk hk2 => ?_⟩
  obtain ⟨d1, d2, d3, d4, d5, d6, d7⟩ := b6 k hk hk2
  exact ⟨d1, d2, d3, d4, f_has_mono d5 h3 h4, d6, d7⟩
theorem ivSh_frame {I I' : xI} {J J' : xJ} (h : ivSh I J) (h1 : ∀ s : Nat, s < 6 → I' (45 + 2 * s) = I (45 + 2 * s)) (h2 : I' 87 = I 87) (h3 : I' 88 = I 88) (h4 : I 41 2 ≤ I' 41 2) (h5 : ∀ s : Nat, s < 6 → J' (46 + 2 * s) = J (46 + 2 * s)) (h6 : J' 89 = J 89) : ivSh I' J' := by
  intro s hs
  have := h s hs
  unfold shRel at this ⊢
  rw [h1 s hs, h2, h3, h5 s hs, h6]
  rcases this with a | a | a
  · exact Or.inl a
  · exact Or.inr (Or.inl ⟨a.1, a.2.1, a.2.2.1, by have := a.2.2.2; grind⟩)
  · exact Or.inr (Or.inr a)
theorem pp_bill {I : xI} {J : xJ} (h : Inv I J) (ls : Int32) : PairI Inv M_X11_bill M_X12_bill [.int ls] I J := by
  obtain ⟨hh, hb, hse, hin, hch, hta, hle, him, hcl, hsh, hlw⟩ := id h
  obtain ⟨a1, a2, a3, a4, a5, a6⟩ := id hh
  by_cases hbad : ls < 10 ∨ 99 < ls
  · refine pair_of (v := -1) (v' := -1) (I1 := I) (I2 := I) (J1 := J) (J2 := J) ?_ ?_ rfl h
    · refine specF_of (L := [some (.ref 0), some (.int ls)]) (by decide) (Nat.le_of_ble_eq_true rfl) rfl ?_
      refine iX11_bill_0 (iX11_bill_1 (iX11_bill_3 (fun h3 => ?_) (fun h3 => ?_)))
      · refine iX11_bill_12 (iX11_bill_13 ?_)
        exact ⟨rfl, rfl, rfl, rfl⟩
      · refine iX11_bill_6 (iX11_bill_7 (iX11_bill_9 (fun h9 => ?_) (fun h9 => ?_)))
        · refine iX11_bill_14 ?_
          exfalso
          grind
        · refine iX11_bill_12 (iX11_bill_13 ?_)
          exact ⟨rfl, rfl, rfl, rfl⟩
    · refine specF_of (L := [some (.ref 57), some (.int ls)]) (by decide) (Nat.le_of_ble_eq_true rfl) rfl ?_
      refine iX12_bill_0 (iX12_bill_1 (iX12_bill_3 (iX12_bill_5 (s_X12_in _ _ _) (iX12_bill_8 (fun h8 => ?_) (fun h8 => ?_)))))
      · exfalso
        have := f_in_p ‹_›
        grind
      · refine iX12_bill_11 (iX12_bill_12 ?_)
        exact ⟨rfl, rfl, rfl, rfl⟩
  have hd := div10_in (x := ls) (by grind) (by grind)
  by_cases hfull : I 1 2 = 10
  · refine pair_of (v := -3) (v' := -3) (I1 := I) (I2 := I) (J1 := J) (J2 := J) ?_ ?_ rfl h
    · refine specF_of (L := [some (.ref 0), some (.int ls)]) (by decide) (Nat.le_of_ble_eq_true rfl) rfl ?_
      refine iX11_bill_0 (iX11_bill_1 (iX11_bill_3 (fun h3 => ?_) (fun h3 => ?_)))
      · refine iX11_bill_12 (iX11_bill_13 ?_)
        first | exact ⟨rfl, rfl, rfl, rfl⟩ | (exfalso; grind)
      · refine iX11_bill_6 (iX11_bill_7 (iX11_bill_9 (fun h9 => ?_) (fun h9 => ?_)))
        · refine iX11_bill_14 (iX11_bill_15 (iX11_bill_18 (iX11_bill_19 (iX11_bill_21 (by decide) (iX11_bill_22 (iX11_bill_23 (iX11_bill_25 (by decide) (iX11_bill_26 (iX11_bill_28 (s_X5_addBill_full _ _ _ (by grind)) (iX11_bill_31 ?_))))))))))
          first | exact ⟨rfl, rfl, rfl, rfl⟩ | (exfalso; grind)
        · refine iX11_bill_12 (iX11_bill_13 ?_)
          first | exact ⟨rfl, rfl, rfl, rfl⟩ | (exfalso; grind)
    · refine specF_of (L := [some (.ref 57), some (.int ls)]) (by decide) (Nat.le_of_ble_eq_true rfl) rfl ?_
      refine iX12_bill_0 (iX12_bill_1 (iX12_bill_3 (iX12_bill_5 (s_X12_in _ _ _) (iX12_bill_8 (fun h8 => ?_) (fun h8 => ?_)))))
      · refine iX12_bill_13 (iX12_bill_14 (iX12_bill_17 (iX12_bill_19 (fun h19 => ?_) (fun h19 => ?_))))
        · exfalso
          grind
        · refine iX12_bill_22 (iX12_bill_24 (iX12_bill_41 ?_))
          exact ⟨rfl, rfl, rfl, rfl⟩
      · exfalso
        have := f_in_n ‹_›
        grind
  · have hlt : I 1 2 < 10 := by grind
    refine pair_of (v := I 1 2) (v' := I 57 1) (I1 := g_addBill I (ls / 10) (ls - ls / 10 * 10) 10) (J1 := J) (I2 := mg_addBill (g_addBill I (ls / 10) (ls - ls / 10 * 10) 10) (ls / 10) (ls - ls / 10 * 10) 10) (J2 := J) ?_ ?_ a1 ?_
    · refine specF_of (L := [some (.ref 0), some (.int ls)]) (by decide) (Nat.le_of_ble_eq_true rfl) rfl ?_
      refine iX11_bill_0 (iX11_bill_1 (iX11_bill_3 (fun h3 => ?_) (fun h3 => ?_)))
      · refine iX11_bill_12 (iX11_bill_13 ?_)
        first | exact ⟨rfl, rfl, rfl, rfl⟩ | (exfalso; grind)
      · refine iX11_bill_6 (iX11_bill_7 (iX11_bill_9 (fun h9 => ?_) (fun h9 => ?_)))
        · refine iX11_bill_14 (iX11_bill_15 (iX11_bill_18 (iX11_bill_19 (iX11_bill_21 (by decide) (iX11_bill_22 (iX11_bill_23 (iX11_bill_25 (by decide) (iX11_bill_26 (iX11_bill_28 (s_X5_addBill_ok _ _ _ (by grind) hlt) (iX11_bill_31 ?_))))))))))
          first | exact ⟨rfl, rfl, rfl, rfl⟩ | (exfalso; grind)
        · refine iX11_bill_12 (iX11_bill_13 ?_)
          first | exact ⟨rfl, rfl, rfl, rfl⟩ | (exfalso; grind)
    · refine specF_of (L := [some (.ref 57), some (.int ls)]) (by decide) (Nat.le_of_ble_eq_true rfl) rfl ?_
      have e57 : g_addBill I (ls / 10) (ls - ls / 10 * 10) 10 57 1 = I 57 1 := by simp [g_addBill, xu]
      refine iX12_bill_0 (iX12_bill_1 (iX12_bill_3 (iX12_bill_5 (s_X12_in _ _ _) (iX12_bill_8 (fun h8 => ?_) (fun h8 => ?_)))))
      · refine iX12_bill_13 (iX12_bill_14 (iX12_bill_17 (iX12_bill_19 (fun h19 => ?_) (fun h19 => ?_))))
        · refine iX12_bill_27 (iX12_bill_28 (iX12_bill_29 (iX12_bill_31 (by decide) (iX12_bill_32 (iX12_bill_33 (iX12_bill_35 (by decide) (iX12_bill_36 (iX12_bill_38 (s_X12_addBill _ _ _ (by grind) (by grind)) (iX12_bill_41 ?_)))))))))
          exact ⟨by rw [e57], rfl, rfl, rfl⟩
        · exfalso
          grind
      · exfalso
        have := f_in_n ‹_›
        grind
    · generalize ls / 10 = q at hd
      generalize ls - q * 10 = r at hd
      have hk : (I 1 2).toNatClampNeg < 10 := clamp_lt' (N := 10) (by decide) a3 hlt
      have e1 : g_addBill I q r 10 57 1 = I 1 2 := by simp [g_addBill, xu, a1]
      have eA : mg_addBill (g_addBill I q r 10) q r 10 = xu (xu (xu (xu (g_addBill I q r 10) 58 (I 1 2).toNatClampNeg q) 59 (I 1 2).toNatClampNeg r) 61 (I 1 2).toNatClampNeg 10) 57 1 (I 1 2 + 1) := by unfold mg_addBill; rw [e1]
      rw [eA]
      unfold g_addBill
      generalize (I 1 2).toNatClampNeg = k at hk
      refine ⟨?_, ?_, ?_, ?_, ?_, ?_, ?_, ?_, ?_, ?_, ?_⟩
      · simp only [ivHouse, xu]
        grind
      · intro b hb'
        have := hb b hb'
        simp only [xu]
        grind
      · intro b hb'
        have := hse b hb'
        simp only [xu]
        grind
      · simp only [ivInf, xu] at hin ⊢
        grind
      · exact ivChg_frame hch (by simp [xu_rowf]) (by simp [xu]) (by simp [xu]) (by simp [xu]; grind) (by simp [xu])
      · simp only [ivTape, xu] at hta ⊢
        grind
      · intro b hb'
        have := hle b hb'
        simp only [xu]
        grind
      · simp only [ivImg, xu] at him ⊢
        grind
      · simp only [ivCl, xu] at hcl ⊢
        grind
      · exact ivSh_frame hsh (fun s hs => by simp (disch := omega) only [xu_rowf]) (by simp [xu_rowf]) (by simp [xu_rowf]) (by simp [xu]) (fun _ _ => rfl) rfl
      · exact ivLaw_frame hlw (by simp [lawRows, xu, xu_rowf])
