/-! ===== whole fractions: partOf and lowest; power ===== -/
def euc : Nat → Nat → Nat → Nat
  | 0, x, _ => x
  | n + 1, x, y => if y = 0 then x else euc n y (x % y)
theorem euc_0 : ∀ n x, euc n x 0 = x
  | 0, _ => rfl
  | _ + 1, _ => rfl
theorem euc_gcd : ∀ k x y n : Nat, y < 2 ^ k → 2 * k ≤ n → euc n x y = Nat.gcd x y
  | 0, x, y, n, h, _ => by
    obtain rfl : y = 0 := by simpa using h
    rw [euc_0, Nat.gcd_zero_right]
  | k + 1, x, y, n, h, hn => by
    by_cases hy : y = 0
    · subst hy; rw [euc_0, Nat.gcd_zero_right]
    obtain ⟨n, rfl⟩ : ∃ m, n = m + 2 := ⟨n - 2, by omega⟩
    have e1 : euc (n + 2) x y = euc (n + 1) y (x % y) := if_neg hy
    have g1 : Nat.gcd x y = Nat.gcd y (x % y) := by rw [Nat.gcd_comm, Nat.gcd_rec, Nat.gcd_comm]
    rw [e1, g1]
    by_cases hr : x % y = 0
    · rw [hr, euc_0, Nat.gcd_zero_right]
    have e2 : euc (n + 1) y (x % y) = euc n (x % y) (y % (x % y)) := if_neg hr
    have g2 : Nat.gcd y (x % y) = Nat.gcd (x % y) (y % (x % y)) := by rw [Nat.gcd_comm, Nat.gcd_rec, Nat.gcd_comm]
    have h1 : x % y < y := Nat.mod_lt _ (by omega)
    have h2 : y % (x % y) < x % y := Nat.mod_lt _ (by omega)
    have h3 := Nat.div_add_mod y (x % y)
    have h4 : 1 ≤ y / (x % y) := Nat.div_pos (by omega) (by omega)
    have h5 : (x % y) * 1 ≤ (x % y) * (y / (x % y)) := Nat.mul_le_mul_left _ h4
    have h6 : 2 ^ (k + 1) = 2 * 2 ^ k := by rw [Nat.pow_succ]; omega
    rw [e2, g2]
    exact euc_gcd k _ _ n (by omega) (by omega)
section
variable {I : xI} {J : xJ}
theorem lN_0 {n : Nat} (h : n < 2 ^ 63) : lN n = 0 ↔ n = 0 := pk_lEQ (b := 0) h (by decide)
theorem s_X11_commonOf {a b : Nat} (ha : a < 2 ^ 63) (hb : b < 2 ^ 63) : SpecF 0 M_X11_commonOf [.long (lN a), .long (lN b)] xG1 I J (some (.long (lN (Nat.gcd a b)))) I J := by
  refine specF_of (L := [some (.long (lN a)), none, some (.long (lN b)), none, none, none, none, none, none, none, none]) (by decide) (Nat.le_of_ble_eq_true rfl) rfl ?_
  have key : ∀ n i x y : Nat, i + n = 200 → x < 2 ^ 63 → y < 2 ^ 63 → ∀ r s, WP 0 (1000000, 0, 0) none M_X11_commonOf (fun r2 g2 I2 J2 => r2 = some (.long (lN (euc n x y))) ∧ g2 = xG1 ∧ I2 = I ∧ J2 = J) 9 [some (.long (lN a)), none, some (.long (lN b)), none, some (.long (lN x)), none, some (.long (lN y)), none, some (.int (nI i)), r, s] [] xG1 I J := by
    intro n
    induction n with
    | zero =>
      intro i x y hi hx hy r s
      obtain rfl : i = 200 := by omega
      refine iX11_commonOf_9 (iX11_commonOf_11 (iX11_commonOf_14 (fun h14 => ?_) (fun h14 => absurd (Int32.le_refl _) (by first | exact h14 | exact fun q => q h14))))
      refine iX11_commonOf_45 (iX11_commonOf_47 ?_)
      exact ⟨rfl, rfl, rfl, rfl⟩
    | succ n ih =>
      intro i x y hi hx hy r s
      by_cases hy0 : y = 0
      · subst hy0
        refine iX11_commonOf_9 (iX11_commonOf_11 (iX11_commonOf_14 (fun h14 => absurd h14 (nI_ge (b := 200) (a := i) (by omega) (by omega))) (fun h14 => ?_)))
        refine iX11_commonOf_17 (iX11_commonOf_19 (iX11_commonOf_20 (iX11_commonOf_21 (fun h21 => ?_) (fun h21 => absurd (rfl) (by first | exact h21 | exact fun q => q h21)))))
        refine iX11_commonOf_45 (iX11_commonOf_47 ?_)
        exact ⟨by rw [euc_0], rfl, rfl, rfl⟩
      · have n21 : ¬ lg_cmp (lN y) 0 = 0 := by rw [lgc_0, lN_0 hy]; exact hy0
        have ny : ¬ lN y = 0 := by rw [lN_0 hy]; exact hy0
        have hr : x % y < y := Nat.mod_lt _ (by omega)
        have er : lN x - lN x / lN y * lN y = lN (x % y) := pk_lRem hx (by omega) hy
        refine iX11_commonOf_9 (iX11_commonOf_11 (iX11_commonOf_14 (fun h14 => absurd h14 (nI_ge (b := 200) (a := i) (by omega) (by omega))) (fun h14 => ?_)))
        refine iX11_commonOf_17 (iX11_commonOf_19 (iX11_commonOf_20 (iX11_commonOf_21 (fun h21 => absurd h21 (n21)) (fun h21 => ?_))))
        refine iX11_commonOf_24 (iX11_commonOf_26 (iX11_commonOf_28 ny ?_))
        rw [er]
        refine iX11_commonOf_29 (iX11_commonOf_31 (iX11_commonOf_33 (iX11_commonOf_35 (iX11_commonOf_37 (iX11_commonOf_39 (iX11_commonOf_42 ?_))))))
        have e1 : nI i + (1) = nI (i + 1) := nI_1 _
        rw [e1]
        have e2 : euc (n + 1) x y = euc n y (x % y) := if_neg hy0
        rw [e2]
        exact ih (i + 1) y (x % y) (by omega) hy (by omega) _ _
  have e := euc_gcd 63 a b 200 hb (by decide)
  rw [← e]
  refine iX11_commonOf_0 (iX11_commonOf_1 (iX11_commonOf_3 (iX11_commonOf_4 (iX11_commonOf_6 (iX11_commonOf_7 ?_)))))
  exact key 200 0 a b (by omega) ha hb _ _
def frac (a b : Nat) (p : Int32) : Int64 := if p = 0 then lN (a / Nat.gcd a b) else lN (b / Nat.gcd a b)
theorem s_X11_partOf {a b : Nat} (ha : a < 2 ^ 63) (hb0 : 0 < b) (hb : b < 2 ^ 63) (p : Int32) : SpecF 1 M_X11_partOf [.long (lN a), .long (lN b), .int p] xG1 I J (some (.long (frac a b p))) I J := by
  refine specF_of (L := [some (.long (lN a)), none, some (.long (lN b)), none, some (.int p), none, none]) (by decide) (Nat.le_of_ble_eq_true rfl) rfl ?_
  have g0 : 0 < Nat.gcd a b := Nat.gcd_pos_of_pos_right a hb0
  have g1 : Nat.gcd a b ≤ b := Nat.gcd_le_right a hb0
  have em : f_maxl 1 (lN (Nat.gcd a b)) = lN (Nat.gcd a b) := by
    unfold f_maxl
    by_cases q : (1 : Int64) < lN (Nat.gcd a b)
    · rw [if_pos q]
    · rw [if_neg q]
      have : ¬ 1 < Nat.gcd a b := fun w => q ((pk_lLT (a := 1) (by decide) (by omega)).mpr w)
      rw [show Nat.gcd a b = 1 by omega]
      rfl
  have nz : ¬ lN (Nat.gcd a b) = 0 := by rw [lN_0 (by omega)]; omega
  have d1 := pk_lDiv ha g0 (show Nat.gcd a b < 2 ^ 63 by omega)
  have d2 := pk_lDiv hb g0 (show Nat.gcd a b < 2 ^ 63 by omega)
  refine iX11_partOf_0 (iX11_partOf_1 (iX11_partOf_2 (iX11_partOf_3 (s_X11_commonOf ha hb) (iX11_partOf_6 (s_J9_maxl _ _) ?_))))
  rw [em]
  refine iX11_partOf_9 (iX11_partOf_11 (iX11_partOf_13 (fun h13 => ?_) (fun h13 => ?_)))
  · refine iX11_partOf_23 (iX11_partOf_24 (iX11_partOf_26 nz (iX11_partOf_27 ?_)))
    exact ⟨congrArg (fun z => some (Value.long z)) (by simp [frac, *]), rfl, rfl, rfl⟩
  · refine iX11_partOf_16 (iX11_partOf_17 (iX11_partOf_19 nz (iX11_partOf_20 (iX11_partOf_27 ?_))))
    exact ⟨congrArg (fun z => some (Value.long z)) (by simp [frac, *]), rfl, rfl, rfl⟩
theorem s_X12_lowest {a b : Nat} (ha : a < 2 ^ 63) (hb0 : 0 < b) (hb : b < 2 ^ 63) (p : Int32) (hp : p = 0 ∨ p = 1) : SpecF 1 M_X12_lowest [.long (lN a), .long (lN b), .int p] xG1 I J (some (.long (frac a b p))) I J := by
  refine specF_of (L := [some (.long (lN a)), none, some (.long (lN b)), none, some (.int p), none, none, none, none, none, none]) (by decide) (Nat.le_of_ble_eq_true rfl) rfl ?_
  have g0 : 0 < Nat.gcd a b := Nat.gcd_pos_of_pos_right a hb0
  have g1 : Nat.gcd a b ≤ b := Nat.gcd_le_right a hb0
  have nz : ¬ lN (Nat.gcd a b) = 0 := by rw [lN_0 (by omega)]; omega
  have d1 := pk_lDiv ha g0 (show Nat.gcd a b < 2 ^ 63 by omega)
  have d2 := pk_lDiv hb g0 (show Nat.gcd a b < 2 ^ 63 by omega)
  by_cases ha0 : a = 0
  · subst ha0
    refine iX12_lowest_0 (iX12_lowest_1 (iX12_lowest_2 (iX12_lowest_3 (fun h3 => absurd h3 (fun q => q rfl)) (fun h3 => ?_))))
    refine iX12_lowest_6 (iX12_lowest_8 (iX12_lowest_9 ?_))
    refine ⟨congrArg (fun z => some (Value.long z)) ?_, rfl, rfl, rfl⟩
    unfold frac
    rw [Nat.gcd_zero_left, Nat.div_self hb0, Nat.zero_div]
    rcases hp with rfl | rfl <;> rfl
  have n3 : ¬ lg_cmp (lN a) 0 = 0 := by rw [lgc_0, lN_0 ha]; exact ha0
  have key : ∀ m x y : Nat, y < m → x < 2 ^ 63 → y < 2 ^ 63 → Nat.gcd x y = Nat.gcd a b → ∀ r s, WP 1 (1000000, 0, 0) none M_X12_lowest (fun r2 g2 I2 J2 => r2 = some (.long (frac a b p)) ∧ g2 = xG1 ∧ I2 = I ∧ J2 = J) 16 [some (.long (lN a)), none, some (.long (lN b)), none, some (.int p), some (.long (lN x)), none, some (.long (lN y)), none, r, s] [] xG1 I J := by
    intro m
    induction m with
    | zero => intro x y h; omega
    | succ m ih =>
      intro x y hm hx hy hg r s
      by_cases hy0 : y = 0
      · subst hy0
        rw [Nat.gcd_zero_right] at hg
        subst hg
        refine iX12_lowest_16 (iX12_lowest_18 (iX12_lowest_19 (iX12_lowest_20 (fun h20 => ?_) (fun h20 => absurd (rfl) (by first | exact h20 | exact fun q => q h20)))))
        refine iX12_lowest_41 (iX12_lowest_43 (fun h43 => ?_) (fun h43 => ?_))
        · refine iX12_lowest_53 (iX12_lowest_54 (iX12_lowest_56 nz (iX12_lowest_57 ?_)))
          exact ⟨congrArg (fun z => some (Value.long z)) (by simp [frac, *]), rfl, rfl, rfl⟩
        · refine iX12_lowest_46 (iX12_lowest_47 (iX12_lowest_49 nz (iX12_lowest_50 (iX12_lowest_57 ?_))))
          exact ⟨congrArg (fun z => some (Value.long z)) (by simp [frac, *]), rfl, rfl, rfl⟩
      · have n21 : ¬ lg_cmp (lN y) 0 = 0 := by rw [lgc_0, lN_0 hy]; exact hy0
        have ny : ¬ lN y = 0 := by rw [lN_0 hy]; exact hy0
        have hr : x % y < y := Nat.mod_lt _ (by omega)
        have er : lN x - lN x / lN y * lN y = lN (x % y) := pk_lRem hx (by omega) hy
        have g2 : Nat.gcd x y = Nat.gcd y (x % y) := by rw [Nat.gcd_comm, Nat.gcd_rec, Nat.gcd_comm]
        refine iX12_lowest_16 (iX12_lowest_18 (iX12_lowest_19 (iX12_lowest_20 (fun h20 => absurd h20 (n21)) (fun h20 => ?_))))
        refine iX12_lowest_23 (iX12_lowest_25 (iX12_lowest_27 ny ?_))
        rw [er]
        refine iX12_lowest_28 (iX12_lowest_30 (iX12_lowest_32 (iX12_lowest_34 (iX12_lowest_36 (iX12_lowest_38 ?_)))))
        exact ih y (x % y) (by omega) hy (by omega) (by rw [← g2, hg]) _ _
  refine iX12_lowest_0 (iX12_lowest_1 (iX12_lowest_2 (iX12_lowest_3 (fun h3 => ?_) (fun h3 => absurd (n3) (by first | exact h3 | exact fun q => q h3)))))
  refine iX12_lowest_10 (iX12_lowest_11 (iX12_lowest_13 (iX12_lowest_14 ?_)))
  exact key (b + 1) a b (by omega) ha hb rfl _ _
end
theorem part_01 {p : Int32} (h : ¬ f_in p 0 1 = 0) : p = 0 ∨ p = 1 := by
  have := f_in_p h
  grind
theorem pp_power : PP_power Inv := by
  intro I J h one p
  obtain ⟨hh, hb, hse, hin, hch, hta, hle, him, hcl, hsh, hlw⟩ := id h
  obtain ⟨a1, a2, a3, a4, a5, a6⟩ := id hh
  by_cases hbad : one < 0 ∨ I 1 3 < one ∨ f_in p 0 1 = 0
  · refine pairJ_of (v := -9223372036854775808) (v' := -9223372036854775808) (I1 := I) (I2 := I) (J1 := J) (J2 := J) ?_ ?_ rfl h
    · refine specF_of (L := [some (.ref 0), some (.int one), some (.int p), none, none]) (by decide) (Nat.le_of_ble_eq_true rfl) rfl ?_
      refine iX11_power_0 (iX11_power_1 (iX11_power_4 s_X5_senatorCount (iX11_power_7 (iX11_power_8 (iX11_power_9 (fun h9 => ?_) (fun h9 => ?_))))))
      · refine iX11_power_24 (iX11_power_27 ?_)
        first | exact ⟨rfl, rfl, rfl, rfl⟩ | (exfalso; (try simp only [f_in] at *); grind)
      · refine iX11_power_12 (iX11_power_13 (iX11_power_14 (fun h14 => ?_) (fun h14 => ?_)))
        · refine iX11_power_24 (iX11_power_27 ?_)
          first | exact ⟨rfl, rfl, rfl, rfl⟩ | (exfalso; (try simp only [f_in] at *); grind)
        · refine iX11_power_17 (iX11_power_18 (s_X11_isPart _) (iX11_power_21 (fun h21 => ?_) (fun h21 => ?_)))
          · exfalso
            grind
          · refine iX11_power_24 (iX11_power_27 ?_)
            first | exact ⟨rfl, rfl, rfl, rfl⟩ | (exfalso; (try simp only [f_in] at *); grind)
    · refine specF_of (L := [some (.ref 57), some (.int one), some (.int p), none, none]) (by decide) (Nat.le_of_ble_eq_true rfl) rfl ?_
      refine iX12_power_0 (iX12_power_1 (iX12_power_2 (iX12_power_3 (iX12_power_6 (s_X12_in _ _ _) (iX12_power_9 (fun h9 => ?_) (fun h9 => ?_))))))
      · refine iX12_power_21 (iX12_power_24 ?_)
        first | exact ⟨rfl, rfl, rfl, rfl⟩ | (exfalso; (try simp only [f_in] at *); grind)
      · refine iX12_power_12 (iX12_power_13 (iX12_power_14 (iX12_power_15 (s_X12_in _ _ _) (iX12_power_18 (fun h18 => ?_) (fun h18 => ?_)))))
        · exfalso
          have := f_in_p h9
          grind
        · refine iX12_power_21 (iX12_power_24 ?_)
          first | exact ⟨rfl, rfl, rfl, rfl⟩ | (exfalso; (try simp only [f_in] at *); grind)
  have n9 : ¬ one < 0 := by grind
  have n14 : ¬ I 1 3 < one := by grind
  have n21 : ¬ f_in p 0 1 = 0 := by grind
  have hp := part_01 n21
  have m9 : ¬ f_in one 0 (I 57 6) = 0 := by rw [a2]; unfold f_in; grind
  obtain ⟨n, hn, en⟩ := nI_of2 (x := I 1 3) (M := 6) (n := 6) (by decide) (by grind) a6
  have tab : ∀ n : Nat, n < 7 → 0 < n → (nI n - (nI n / 2 + 1) + 1).toInt64 = lN (n - n / 2) ∧ (nI n + 1).toInt64 = lN (n + 1) ∧ (nI n / 2 + 1).toInt64 = lN (n / 2 + 1) ∧ (nI n * (nI n + 1)).toInt64 = lN (n * (n + 1)) ∧ n * (n + 1) < 100 := by decide +kernel
  have tab2 : ∀ n : Nat, n < 7 → (nI n).toInt64 - (nI n).toInt64 / 2 = lN (n - n / 2) ∧ (nI n).toInt64 + 1 = lN (n + 1) ∧ (nI n).toInt64 / 2 + 1 = lN (n / 2 + 1) ∧ (nI n).toInt64 * ((nI n).toInt64 + 1) = lN (n * (n + 1)) := by decide +kernel
  obtain ⟨u1, u2, u3, u4⟩ := tab2 n (by omega)
  by_cases h0 : n = 0
  · subst h0
    have e1 : one = 0 := by have : I 1 3 = 0 := en; grind
    have e29 : ¬ ¬ I 1 3 = 0 := by rw [en]; decide
    refine pairJ_of (v := frac 0 1 p) (v' := frac 0 1 p) (I1 := I) (I2 := I) (J1 := J) (J2 := J) ?_ ?_ rfl h
    · refine specF_of (L := [some (.ref 0), some (.int one), some (.int p), none, none]) (by decide) (Nat.le_of_ble_eq_true rfl) rfl ?_
      refine iX11_power_0 (iX11_power_1 (iX11_power_4 s_X5_senatorCount (iX11_power_7 (iX11_power_8 (iX11_power_9 (fun h9 => absurd h9 (n9)) (fun h9 => ?_))))))
      refine iX11_power_12 (iX11_power_13 (iX11_power_14 (fun h14 => absurd h14 (n14)) (fun h14 => ?_)))
      refine iX11_power_17 (iX11_power_18 (s_X11_isPart _) (iX11_power_21 (fun h21 => ?_) (fun h21 => absurd (n21) (by first | exact h21 | exact fun q => q h21))))
      refine iX11_power_28 (iX11_power_29 (fun h29 => absurd h29 (e29)) (fun h29 => ?_))
      refine iX11_power_32 (iX11_power_33 (iX11_power_34 (iX11_power_35 (s_X11_partOf (a := 0) (b := 1) (by decide) (by decide) (by decide) p) (iX11_power_38 ?_))))
      first | exact ⟨rfl, rfl, rfl, rfl⟩ | (exfalso; (try simp only [f_in] at *); grind)
    · refine specF_of (L := [some (.ref 57), some (.int one), some (.int p), none, none]) (by decide) (Nat.le_of_ble_eq_true rfl) rfl ?_
      have e36 : ¬ ¬ one = I 57 6 := by rw [a2, en, e1]; decide
      have e26 : (I 57 6).toInt64 = 0 := by rw [a2, en]; rfl
      refine iX12_power_0 (iX12_power_1 (iX12_power_2 (iX12_power_3 (iX12_power_6 (s_X12_in _ _ _) (iX12_power_9 (fun h9 => absurd h9 (m9)) (fun h9 => ?_))))))
      refine iX12_power_12 (iX12_power_13 (iX12_power_14 (iX12_power_15 (s_X12_in _ _ _) (iX12_power_18 (fun h18 => ?_) (fun h18 => absurd (n21) (by first | exact h18 | exact fun q => q h18))))))
      refine iX12_power_25 (iX12_power_26 (iX12_power_29 ?_))
      rw [e26]
      refine iX12_power_30 (iX12_power_31 (iX12_power_32 (iX12_power_33 (iX12_power_36 (fun h36 => absurd h36 (e36)) (fun h36 => ?_)))))
      refine iX12_power_39 (iX12_power_40 (iX12_power_41 (iX12_power_44 (by decide) (iX12_power_45 (iX12_power_46 (iX12_power_47 (iX12_power_48 (iX12_power_49 (iX12_power_50 (s_X12_lowest (a := 0) (b := 1) (by decide) (by decide) (by decide) p hp) (iX12_power_53 ?_))))))))))
      first | exact ⟨rfl, rfl, rfl, rfl⟩ | (exfalso; (try simp only [f_in] at *); grind)
  obtain ⟨t1, t2, t3, t4, t5⟩ := tab n (by omega) (by omega)
  have e29 : ¬ I 1 3 = 0 := by rw [en]; exact nI_ne0 (by omega) (by omega)
  have hpos : 0 < n * (n + 1) := Nat.mul_pos (by omega) (by omega)
  by_cases hall : one = I 1 3
  · have e36 : ¬ ¬ one = I 57 6 := by rw [a2]; exact fun q => q hall
    have e48 : ¬ ¬ one = I 1 3 := fun q => q hall
    refine pairJ_of (v := frac (n - n / 2) (n + 1) p) (v' := frac (n - n / 2) (n + 1) p) (I1 := I) (I2 := I) (J1 := J) (J2 := J) ?_ ?_ rfl h
    · refine specF_of (L := [some (.ref 0), some (.int one), some (.int p), none, none]) (by decide) (Nat.le_of_ble_eq_true rfl) rfl ?_
      refine iX11_power_0 (iX11_power_1 (iX11_power_4 s_X5_senatorCount (iX11_power_7 (iX11_power_8 (iX11_power_9 (fun h9 => absurd h9 (n9)) (fun h9 => ?_))))))
      refine iX11_power_12 (iX11_power_13 (iX11_power_14 (fun h14 => absurd h14 (n14)) (fun h14 => ?_)))
      refine iX11_power_17 (iX11_power_18 (s_X11_isPart _) (iX11_power_21 (fun h21 => ?_) (fun h21 => absurd (n21) (by first | exact h21 | exact fun q => q h21))))
      refine iX11_power_28 (iX11_power_29 (fun h29 => ?_) (fun h29 => absurd (e29) (by first | exact h29 | exact fun q => q h29)))
      refine iX11_power_39 (iX11_power_40 (iX11_power_41 (by decide) (iX11_power_42 (iX11_power_43 (iX11_power_44 (iX11_power_46 (iX11_power_47 (iX11_power_48 (fun h48 => absurd h48 (e48)) (fun h48 => ?_)))))))))
      refine iX11_power_51 (iX11_power_52 (iX11_power_54 (iX11_power_55 (iX11_power_56 (iX11_power_57 (iX11_power_58 (iX11_power_59 (iX11_power_60 (iX11_power_61 (iX11_power_62 ?_))))))))))
      rw [en, t1, t2]
      refine iX11_power_63 (s_X11_partOf (by omega) (by omega) (by omega) p) (iX11_power_66 ?_)
      first | exact ⟨rfl, rfl, rfl, rfl⟩ | (exfalso; (try simp only [f_in] at *); grind)
    · refine specF_of (L := [some (.ref 57), some (.int one), some (.int p), none, none]) (by decide) (Nat.le_of_ble_eq_true rfl) rfl ?_
      refine iX12_power_0 (iX12_power_1 (iX12_power_2 (iX12_power_3 (iX12_power_6 (s_X12_in _ _ _) (iX12_power_9 (fun h9 => absurd h9 (m9)) (fun h9 => ?_))))))
      refine iX12_power_12 (iX12_power_13 (iX12_power_14 (iX12_power_15 (s_X12_in _ _ _) (iX12_power_18 (fun h18 => ?_) (fun h18 => absurd (n21) (by first | exact h18 | exact fun q => q h18))))))
      refine iX12_power_25 (iX12_power_26 (iX12_power_29 (iX12_power_30 (iX12_power_31 (iX12_power_32 (iX12_power_33 (iX12_power_36 (fun h36 => absurd h36 (e36)) (fun h36 => ?_))))))))
      refine iX12_power_39 (iX12_power_40 (iX12_power_41 (iX12_power_44 (by decide) (iX12_power_45 (iX12_power_46 (iX12_power_47 (iX12_power_48 (iX12_power_49 ?_))))))))
      rw [a2, en, u1, u2]
      refine iX12_power_50 (s_X12_lowest (by omega) (by omega) (by omega) p hp) (iX12_power_53 ?_)
      first | exact ⟨rfl, rfl, rfl, rfl⟩ | (exfalso; (try simp only [f_in] at *); grind)
  · have e36 : ¬ one = I 57 6 := by rw [a2]; exact hall
    refine pairJ_of (v := frac (n / 2 + 1) (n * (n + 1)) p) (v' := frac (n / 2 + 1) (n * (n + 1)) p) (I1 := I) (I2 := I) (J1 := J) (J2 := J) ?_ ?_ rfl h
    · refine specF_of (L := [some (.ref 0), some (.int one), some (.int p), none, none]) (by decide) (Nat.le_of_ble_eq_true rfl) rfl ?_
      refine iX11_power_0 (iX11_power_1 (iX11_power_4 s_X5_senatorCount (iX11_power_7 (iX11_power_8 (iX11_power_9 (fun h9 => absurd h9 (n9)) (fun h9 => ?_))))))
      refine iX11_power_12 (iX11_power_13 (iX11_power_14 (fun h14 => absurd h14 (n14)) (fun h14 => ?_)))
      refine iX11_power_17 (iX11_power_18 (s_X11_isPart _) (iX11_power_21 (fun h21 => ?_) (fun h21 => absurd (n21) (by first | exact h21 | exact fun q => q h21))))
      refine iX11_power_28 (iX11_power_29 (fun h29 => ?_) (fun h29 => absurd (e29) (by first | exact h29 | exact fun q => q h29)))
      refine iX11_power_39 (iX11_power_40 (iX11_power_41 (by decide) (iX11_power_42 (iX11_power_43 (iX11_power_44 (iX11_power_46 (iX11_power_47 (iX11_power_48 (fun h48 => ?_) (fun h48 => absurd (hall) (by first | exact h48 | exact fun q => q h48))))))))))
      refine iX11_power_67 (iX11_power_69 (iX11_power_70 (iX11_power_71 (iX11_power_72 (iX11_power_73 (iX11_power_74 (iX11_power_75 (iX11_power_76 ?_))))))))
      rw [en, t3, t4]
      refine iX11_power_77 (s_X11_partOf (by omega) hpos (by omega) p) (iX11_power_80 ?_)
      first | exact ⟨rfl, rfl, rfl, rfl⟩ | (exfalso; (try simp only [f_in] at *); grind)
    · refine specF_of (L := [some (.ref 57), some (.int one), some (.int p), none, none]) (by decide) (Nat.le_of_ble_eq_true rfl) rfl ?_
      refine iX12_power_0 (iX12_power_1 (iX12_power_2 (iX12_power_3 (iX12_power_6 (s_X12_in _ _ _) (iX12_power_9 (fun h9 => absurd h9 (m9)) (fun h9 => ?_))))))
      refine iX12_power_12 (iX12_power_13 (iX12_power_14 (iX12_power_15 (s_X12_in _ _ _) (iX12_power_18 (fun h18 => ?_) (fun h18 => absurd (n21) (by first | exact h18 | exact fun q => q h18))))))
      refine iX12_power_25 (iX12_power_26 (iX12_power_29 (iX12_power_30 (iX12_power_31 (iX12_power_32 (iX12_power_33 (iX12_power_36 (fun h36 => ?_) (fun h36 => absurd (e36) (by first | exact h36 | exact fun q => q h36)))))))))
      refine iX12_power_54 (iX12_power_55 (iX12_power_58 (by decide) (iX12_power_59 (iX12_power_60 (iX12_power_61 (iX12_power_62 (iX12_power_63 (iX12_power_64 (iX12_power_65 (iX12_power_66 ?_))))))))))
      rw [a2, en, u3, u4]
      refine iX12_power_67 (s_X12_lowest (by omega) hpos (by omega) p hp) (iX12_power_70 ?_)
      first | exact ⟨rfl, rfl, rfl, rfl⟩ | (exfalso; (try simp only [f_in] at *); grind)
