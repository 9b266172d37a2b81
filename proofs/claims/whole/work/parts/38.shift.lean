/-! ===== shift ===== -/
theorem shRel_kind {I : xI} {J : xJ} {a e s : Nat} (h : shRel I J a e s) : (I a 1 = 0 ∧ I 87 s = -1) ∨ (I a 1 = 1 ∧ 0 ≤ I 87 s ∧ ¬ I 87 s = -1) ∨ (I a 1 = 2 ∧ I 87 s < 0 ∧ ¬ I 87 s = -1 ∧ ∃ t : Nat, t < 5 ∧ I a 3 = nI t ∧ I 87 s = -2 - nI t ∧ I 88 s = I a 4 ∧ 0 ≤ I a 4 ∧ I a 4 ≤ 60 ∧ ∀ k : Nat, k < 60 → J 89 (60 * s + k) = J e k) := by
  rcases h with ⟨q1, q2⟩ | ⟨q1, q2, q3, q4⟩ | ⟨q1, q2, q3, q4, q5, q6, q7, q8⟩
  · exact Or.inl ⟨q1, q2⟩
  · exact Or.inr (Or.inl ⟨q1, by grind, by grind⟩)
  · have m1 : ∀ t : Nat, t < 5 → ¬ -2 - nI t = -1 ∧ -2 - nI t < 0 := by decide +kernel
    obtain ⟨t, ht, et⟩ := nI_of2 (x := I a 3) (M := 4) (n := 4) (by decide) (by grind) q4
    refine Or.inr (Or.inr ⟨q1, ?_, ?_, t, by omega, et, by rw [q2, et], q5, q6, q7, q8⟩)
    · rw [q2, et]; exact (m1 t (by omega)).2
    · rw [q2, et]; exact (m1 t (by omega)).1
theorem sort_eq {t u : Nat} (ht : t < 5) (hu : u < 5) : (-2 - nI t = -2 - nI u ↔ nI t = nI u) := by
  have : ∀ t : Nat, t < 5 → ∀ u : Nat, u < 5 → (-2 - nI t = -2 - nI u ↔ nI t = nI u) := by decide +kernel
  exact this t ht u hu
theorem room_eq {L i n : Int32} (h0 : 0 ≤ L) (h1 : L ≤ 60) (hi : ¬ i < 0) (hn : ¬ n < 0) : (¬ L < i ∧ ¬ L - i < n) ↔ ¬ L - n < i := by
  obtain ⟨l, hl, rfl⟩ := nI_of2 (M := 60) (n := 60) (by decide) (by grind) h1
  obtain ⟨i', hi', rfl⟩ := nI_of hi
  obtain ⟨n', hn', rfl⟩ := nI_of hn
  have el : (nI l).toInt = l := nI_toInt (by omega)
  have ei : (nI i').toInt = i' := nI_toInt hi'
  have en : (nI n').toInt = n' := nI_toInt hn'
  simp only [Int32.lt_iff_toInt_lt, Int32.toInt_sub, el, ei, en, Int.bmod_def]
  omega
theorem xcp_s {J : xJ} {k0 k1 sp dp i : Nat} (h : ¬ k0 = k1) : xu (xcp J k0 k1 sp dp i) k1 (dp + i) (xcp J k0 k1 sp dp i k0 (sp + i)) = xcp J k0 k1 sp dp (i + 1) := by
  funext a b
  by_cases ha : a = k1
  · subst ha
    simp only [xu, xcp, h, if_false, true_and, if_true]
    by_cases hb : b = dp + i
    · subst hb
      rw [if_pos rfl, if_pos ⟨by omega, by omega⟩, show sp + (dp + i - dp) = sp + i by omega]
    · rw [if_neg hb]
      by_cases hc : dp ≤ b ∧ b < dp + i
      · rw [if_pos hc, if_pos ⟨hc.1, by omega⟩]
      · rw [if_neg hc, if_neg (by omega)]
  · simp only [xu, xcp, ha, false_and, if_false]
theorem xcp_at {J : xJ} {k0 k1 sp dp n b : Nat} : xcp J k0 k1 sp dp n k1 b = if dp ≤ b ∧ b < dp + n then J k0 (sp + (b - dp)) else J k1 b := if_pos rfl
theorem xcp_0 {J : xJ} {k0 k1 sp dp : Nat} : xcp J k0 k1 sp dp 0 = J := by
  funext a b
  simp only [xcp]
  by_cases ha : a = k1
  · subst ha
    rw [if_pos rfl, if_neg (by omega)]
  · rw [if_neg ha]
theorem shift_1 {d : Nat} {s o : Int32} {k i' j' n' : Nat} {I : xI} {J : xJ} {Q : xP} (hk : k < 6) (hs : nI k = s) (hi : i' + n' ≤ 60) (kk : WP d (1000000, 0, 0) none M_X12_shift Q 147 [some (.ref 57), some (.int s), some (.int (nI i')), some (.int o), some (.int (nI j')), some (.int (nI n')), some (.int (nI n'))] [] xG1 I (xcp J 89 90 (60 * k + i') 0 n')) : ∀ n i : Nat, i + n = n' → WP d (1000000, 0, 0) none M_X12_shift Q 113 [some (.ref 57), some (.int s), some (.int (nI i')), some (.int o), some (.int (nI j')), some (.int (nI n')), some (.int (nI i))] [] xG1 I (xcp J 89 90 (60 * k + i') 0 i) := by
  subst hs
  intro n
  induction n with
  | zero =>
    intro i hi
    obtain rfl : i = n' := by omega
    refine iX12_shift_113 (iX12_shift_115 (iX12_shift_117 (fun h117 => ?_) (fun h117 => absurd (Int32.le_refl _) (by first | exact h117 | exact fun q => q h117))))
    exact kk
  | succ n ih =>
    intro i hin
    have e2 : (60 : Int32) * nI k + nI i' + nI i = nI (60 * k + i' + i) := by
      show nI 60 * nI k + nI i' + nI i = _
      rw [pk_mul, nI_add, nI_add]
    refine iX12_shift_113 (iX12_shift_115 (iX12_shift_117 (fun h117 => absurd h117 (nI_ge (by omega) (by omega))) (fun h117 => ?_)))
    refine iX12_shift_120 (iX12_shift_121 (iX12_shift_124 (iX12_shift_126 (iX12_shift_127 (iX12_shift_130 (iX12_shift_132 (iX12_shift_133 (iX12_shift_134 (iX12_shift_135 (iX12_shift_136 (iX12_shift_138 (iX12_shift_139 (by rw [e2]; exact vp_in_nI (by omega) (by omega)) (iX12_shift_140 (vp_in_nI (by omega) (by omega)) (iX12_shift_141 (iX12_shift_144 ?_)))))))))))))))
    rw [e2, nI_clamp (by omega), nI_clamp (by omega)]
    have e3 := xcp_s (J := J) (k0 := 89) (k1 := 90) (sp := 60 * k + i') (dp := 0) (i := i) (by decide)
    rw [Nat.zero_add] at e3
    rw [e3]
    have e1 : nI i + (1) = nI (i + 1) := nI_1 _
    rw [e1]
    exact ih (i + 1) (by omega)
theorem shift_2 {d : Nat} {s o : Int32} {k i' j' n' : Nat} {I : xI} {J : xJ} {Q : xP} (hk : k < 6) (hs : nI k = o) (hi : j' + n' ≤ 60) (kk : Q (some (.int (nI n'))) xG1 I (xcp J 90 89 0 (60 * k + j') n')) : ∀ n i : Nat, i + n = n' → WP d (1000000, 0, 0) none M_X12_shift Q 150 [some (.ref 57), some (.int s), some (.int (nI i')), some (.int o), some (.int (nI j')), some (.int (nI n')), some (.int (nI i))] [] xG1 I (xcp J 90 89 0 (60 * k + j') i) := by
  subst hs
  intro n
  induction n with
  | zero =>
    intro i hi
    obtain rfl : i = n' := by omega
    refine iX12_shift_150 (iX12_shift_152 (iX12_shift_154 (fun h154 => ?_) (fun h154 => absurd (Int32.le_refl _) (by first | exact h154 | exact fun q => q h154))))
    refine iX12_shift_185 (iX12_shift_187 ?_)
    exact kk
  | succ n ih =>
    intro i hin
    have e2 : (60 : Int32) * nI k + nI j' + nI i = nI (60 * k + j' + i) := by
      show nI 60 * nI k + nI j' + nI i = _
      rw [pk_mul, nI_add, nI_add]
    refine iX12_shift_150 (iX12_shift_152 (iX12_shift_154 (fun h154 => absurd h154 (nI_ge (by omega) (by omega))) (fun h154 => ?_)))
    refine iX12_shift_157 (iX12_shift_158 (iX12_shift_161 (iX12_shift_163 (iX12_shift_164 (iX12_shift_165 (iX12_shift_167 (iX12_shift_168 (iX12_shift_170 (iX12_shift_171 (iX12_shift_172 (iX12_shift_175 (iX12_shift_177 (vp_in_nI (by omega) (by omega)) (iX12_shift_178 (by rw [e2]; exact vp_in_nI (by omega) (by omega)) (iX12_shift_179 (iX12_shift_182 ?_)))))))))))))))
    rw [e2, nI_clamp (by omega), nI_clamp (by omega)]
    have e3 := xcp_s (J := J) (k0 := 90) (k1 := 89) (sp := 0) (dp := 60 * k + j') (i := i) (by decide)
    rw [Nat.zero_add] at e3
    rw [e3]
    have e1 : nI i + (1) = nI (i + 1) := nI_1 _
    rw [e1]
    exact ih (i + 1) (by omega)
theorem pp_shift : PP_shift Inv := by
  intro I J h s i o j n
  obtain ⟨hh, hb, hse, hin, hch, hta, hle, him, hcl, hsh, hlw⟩ := id h
  by_cases hbad : f_in s 0 5 = 0 ∨ f_in o 0 5 = 0
  · refine pair_of (v := -1) (v' := -1) (I1 := I) (I2 := I) (J1 := J) (J2 := J) ?_ ?_ rfl h
    · refine specF_of (L := [some (.ref 0), some (.int s), some (.int i), some (.int o), some (.int j), some (.int n), none, none]) (by decide) (Nat.le_of_ble_eq_true rfl) rfl ?_
      refine iX11_shift_0 (iX11_shift_1 (iX11_shift_2 (s_X11_isShelf _) (iX11_shift_5 (fun h5 => ?_) (fun h5 => ?_))))
      · refine iX11_shift_16 (iX11_shift_17 ?_)
        first | exact ⟨rfl, rfl, rfl, rfl⟩ | (exfalso; (try simp only [f_in] at *); grind)
      · refine iX11_shift_8 (iX11_shift_9 (iX11_shift_10 (s_X11_isShelf _) (iX11_shift_13 (fun h13 => ?_) (fun h13 => ?_))))
        · exfalso
          grind
        · refine iX11_shift_16 (iX11_shift_17 ?_)
          first | exact ⟨rfl, rfl, rfl, rfl⟩ | (exfalso; (try simp only [f_in] at *); grind)
    · refine specF_of (L := [some (.ref 57), some (.int s), some (.int i), some (.int o), some (.int j), some (.int n), none]) (by decide) (Nat.le_of_ble_eq_true rfl) rfl ?_
      refine iX12_shift_0 (iX12_shift_1 (s_X12_isShelf _) (iX12_shift_4 (fun h4 => ?_) (fun h4 => ?_)))
      · refine iX12_shift_14 (iX12_shift_15 ?_)
        first | exact ⟨rfl, rfl, rfl, rfl⟩ | (exfalso; (try simp only [f_in] at *); grind)
      · refine iX12_shift_7 (iX12_shift_8 (s_X12_isShelf _) (iX12_shift_11 (fun h11 => ?_) (fun h11 => ?_)))
        · exfalso
          grind
        · refine iX12_shift_14 (iX12_shift_15 ?_)
          first | exact ⟨rfl, rfl, rfl, rfl⟩ | (exfalso; (try simp only [f_in] at *); grind)
  have n1 : ¬ f_in s 0 5 = 0 := by grind
  have n2 : ¬ f_in o 0 5 = 0 := by grind
  have hs := f_in_p n1
  have ho := f_in_p n2
  have hk : s.toNatClampNeg < 6 := clamp_lt' (N := 6) (by decide) hs.1 (by grind)
  have hvs : vp_in s 6 := vin 6 (by decide) (by grind) (by grind)
  have hx := xSh_at hk
  have hr := shRel_kind (hsh _ hk)
  have hko : o.toNatClampNeg < 6 := clamp_lt' (N := 6) (by decide) ho.1 (by grind)
  have hvo : vp_in o 6 := vin 6 (by decide) (by grind) (by grind)
  have hy := xSh_at hko
  have hro := shRel_kind (hsh _ hko)
  have hks := clamp_nI hs.1
  have hkso := clamp_nI ho.1
  by_cases hem : I (45 + 2 * s.toNatClampNeg) 1 = 0 ∨ I (45 + 2 * o.toNatClampNeg) 1 = 0
  · have mem : I 87 s.toNatClampNeg = -1 ∨ I 87 o.toNatClampNeg = -1 := by
      rcases hem with q | q
      · rw [q] at hr; left; rcases hr with a | a | a
        · exact a.2
        · exact absurd a.1 (by decide)
        · exact absurd a.1 (by decide)
      · rw [q] at hro; right; rcases hro with a | a | a
        · exact a.2
        · exact absurd a.1 (by decide)
        · exact absurd a.1 (by decide)
    clear hr hro
    refine pair_of (v := -11) (v' := -11) (I1 := I) (I2 := I) (J1 := J) (J2 := J) ?_ ?_ rfl h
    · refine specF_of (L := [some (.ref 0), some (.int s), some (.int i), some (.int o), some (.int j), some (.int n), none, none]) (by decide) (Nat.le_of_ble_eq_true rfl) rfl ?_
      refine iX11_shift_0 (iX11_shift_1 (iX11_shift_2 (s_X11_isShelf _) (iX11_shift_5 (fun h5 => absurd h5 (n1)) (fun h5 => ?_))))
      refine iX11_shift_8 (iX11_shift_9 (iX11_shift_10 (s_X11_isShelf _) (iX11_shift_13 (fun h13 => ?_) (fun h13 => absurd (n2) (by first | exact h13 | exact fun q => q h13)))))
      refine iX11_shift_18 (iX11_shift_19 (iX11_shift_22 (iX11_shift_23 hvs (shelf_at hk).1 (iX11_shift_24 (iX11_shift_26 (iX11_shift_27 (iX11_shift_30 (iX11_shift_31 hvo (shelf_at hko).1 (iX11_shift_32 (iX11_shift_34 (iX11_shift_36 (hx).1 (s_X9_isEmpty hx) (iX11_shift_39 (fun h39 => ?_) (fun h39 => ?_)))))))))))))
      · refine iX11_shift_50 (iX11_shift_52 ?_)
        first | exact ⟨rfl, rfl, rfl, rfl⟩ | (exfalso; (try simp only [f_in] at *); grind)
      · refine iX11_shift_42 (iX11_shift_44 hy.1 (s_X9_isEmpty hy) (iX11_shift_47 (fun h47 => ?_) (fun h47 => ?_)))
        · exfalso
          grind
        · refine iX11_shift_50 (iX11_shift_52 ?_)
          first | exact ⟨rfl, rfl, rfl, rfl⟩ | (exfalso; (try simp only [f_in] at *); grind)
    · refine specF_of (L := [some (.ref 57), some (.int s), some (.int i), some (.int o), some (.int j), some (.int n), none]) (by decide) (Nat.le_of_ble_eq_true rfl) rfl ?_
      refine iX12_shift_0 (iX12_shift_1 (s_X12_isShelf _) (iX12_shift_4 (fun h4 => absurd h4 (n1)) (fun h4 => ?_)))
      refine iX12_shift_7 (iX12_shift_8 (s_X12_isShelf _) (iX12_shift_11 (fun h11 => ?_) (fun h11 => absurd (n2) (by first | exact h11 | exact fun q => q h11))))
      refine iX12_shift_16 (iX12_shift_17 (iX12_shift_20 (iX12_shift_21 hvs (iX12_shift_22 (iX12_shift_23 (fun h23 => ?_) (fun h23 => ?_))))))
      · refine iX12_shift_36 (iX12_shift_38 ?_)
        first | exact ⟨rfl, rfl, rfl, rfl⟩ | (exfalso; (try simp only [f_in] at *); grind)
      · refine iX12_shift_26 (iX12_shift_27 (iX12_shift_30 (iX12_shift_31 hvo (iX12_shift_32 (iX12_shift_33 (fun h33 => ?_) (fun h33 => ?_))))))
        · exfalso
          grind
        · refine iX12_shift_36 (iX12_shift_38 ?_)
          first | exact ⟨rfl, rfl, rfl, rfl⟩ | (exfalso; (try simp only [f_in] at *); grind)
  have e39 : ¬ ¬ (if I (45 + 2 * s.toNatClampNeg) 1 = 0 then (1 : Int32) else 0) = 0 := by rw [if_neg (fun q => hem (Or.inl q))]; exact fun q => q rfl
  have e47 : (if I (45 + 2 * o.toNatClampNeg) 1 = 0 then (1 : Int32) else 0) = 0 := by rw [if_neg (fun q => hem (Or.inr q))]
  have m23 : ¬ I 87 s.toNatClampNeg = -1 := by
    rcases hr with a | a | a
    · exact absurd (Or.inl a.1) hem
    · exact a.2.2
    · exact a.2.2.1
  have m33 : ¬ I 87 o.toNatClampNeg = -1 := by
    rcases hro with a | a | a
    · exact absurd (Or.inr a.1) hem
    · exact a.2.2
    · exact a.2.2.1
  have hlike : f_like I (45 + 2 * s.toNatClampNeg) (45 + 2 * o.toNatClampNeg) = 1 ↔ (I 87 s.toNatClampNeg < 0 ∧ I 87 s.toNatClampNeg = I 87 o.toNatClampNeg) := by
    unfold f_like
    rcases hr with a | a | ⟨a1, a2, a3, t, ht, et, a4, -⟩
    · exact absurd (Or.inl a.1) hem
    · rw [a.1]; constructor
      · intro q; rw [if_neg (fun w => absurd w.1 (by decide))] at q; exact absurd q (by decide)
      · intro q; have := a.2.1; grind
    rcases hro with b | b | ⟨b1, b2, b3, u, hu, eu, b4, -⟩
    · exact absurd (Or.inr b.1) hem
    · rw [b.1]; constructor
      · intro q; rw [if_neg (fun w => absurd w.2.1 (by decide))] at q; exact absurd q (by decide)
      · intro q; have := b.2.1; grind
    rw [a1, b1, et, eu, a4, b4]
    rw [a4] at a2
    have := sort_eq ht hu
    constructor
    · intro q
      by_cases e : nI t = nI u
      · exact ⟨a2, this.mpr e⟩
      · rw [if_neg (fun w => e w.2.2)] at q; exact absurd q (by decide)
    · intro q
      rw [if_pos ⟨rfl, rfl, this.mp q.2⟩]
  by_cases hli : f_like I (45 + 2 * s.toNatClampNeg) (45 + 2 * o.toNatClampNeg) = 1
  case neg =>
    have hl0 : f_like I (45 + 2 * s.toNatClampNeg) (45 + 2 * o.toNatClampNeg) = 0 := by unfold f_like at hli ⊢; grind
    rw [hlike] at hli
    clear hr hro
    refine pair_of (v := -12) (v' := -12) (I1 := I) (I2 := I) (J1 := J) (J2 := J) ?_ ?_ rfl h
    · refine specF_of (L := [some (.ref 0), some (.int s), some (.int i), some (.int o), some (.int j), some (.int n), none, none]) (by decide) (Nat.le_of_ble_eq_true rfl) rfl ?_
      refine iX11_shift_0 (iX11_shift_1 (iX11_shift_2 (s_X11_isShelf _) (iX11_shift_5 (fun h5 => absurd h5 (n1)) (fun h5 => ?_))))
      refine iX11_shift_8 (iX11_shift_9 (iX11_shift_10 (s_X11_isShelf _) (iX11_shift_13 (fun h13 => ?_) (fun h13 => absurd (n2) (by first | exact h13 | exact fun q => q h13)))))
      refine iX11_shift_18 (iX11_shift_19 (iX11_shift_22 (iX11_shift_23 hvs (shelf_at hk).1 (iX11_shift_24 (iX11_shift_26 (iX11_shift_27 (iX11_shift_30 (iX11_shift_31 hvo (shelf_at hko).1 (iX11_shift_32 (iX11_shift_34 (iX11_shift_36 (hx).1 (s_X9_isEmpty hx) (iX11_shift_39 (fun h39 => absurd h39 (e39)) (fun h39 => ?_)))))))))))))
      refine iX11_shift_42 (iX11_shift_44 hy.1 (s_X9_isEmpty hy) (iX11_shift_47 (fun h47 => ?_) (fun h47 => absurd (e47) (by first | exact h47 | exact fun q => q h47))))
      refine iX11_shift_53 (iX11_shift_55 (iX11_shift_57 (hx).1 (s_X9_isLike hx hy) (iX11_shift_60 (fun h60 => absurd h60 (fun q => q hl0)) (fun h60 => ?_))))
      refine iX11_shift_63 (iX11_shift_65 ?_)
      first | exact ⟨rfl, rfl, rfl, rfl⟩ | (exfalso; (try simp only [f_in] at *); grind)
    · refine specF_of (L := [some (.ref 57), some (.int s), some (.int i), some (.int o), some (.int j), some (.int n), none]) (by decide) (Nat.le_of_ble_eq_true rfl) rfl ?_
      refine iX12_shift_0 (iX12_shift_1 (s_X12_isShelf _) (iX12_shift_4 (fun h4 => absurd h4 (n1)) (fun h4 => ?_)))
      refine iX12_shift_7 (iX12_shift_8 (s_X12_isShelf _) (iX12_shift_11 (fun h11 => ?_) (fun h11 => absurd (n2) (by first | exact h11 | exact fun q => q h11))))
      refine iX12_shift_16 (iX12_shift_17 (iX12_shift_20 (iX12_shift_21 hvs (iX12_shift_22 (iX12_shift_23 (fun h23 => absurd h23 (m23)) (fun h23 => ?_))))))
      refine iX12_shift_26 (iX12_shift_27 (iX12_shift_30 (iX12_shift_31 hvo (iX12_shift_32 (iX12_shift_33 (fun h33 => ?_) (fun h33 => absurd (m33) (by first | exact h33 | exact fun q => q h33)))))))
      refine iX12_shift_39 (iX12_shift_40 (iX12_shift_43 (iX12_shift_44 hvs (iX12_shift_45 (fun h45 => ?_) (fun h45 => ?_)))))
      · refine iX12_shift_63 (iX12_shift_65 ?_)
        first | exact ⟨rfl, rfl, rfl, rfl⟩ | (exfalso; (try simp only [f_in] at *); grind)
      · refine iX12_shift_48 (iX12_shift_49 (iX12_shift_52 (iX12_shift_53 hvs (iX12_shift_54 (iX12_shift_55 (iX12_shift_58 (iX12_shift_59 hvo (iX12_shift_60 (fun h60 => ?_) (fun h60 => ?_)))))))))
        · exfalso
          grind
        · refine iX12_shift_63 (iX12_shift_65 ?_)
          first | exact ⟨rfl, rfl, rfl, rfl⟩ | (exfalso; (try simp only [f_in] at *); grind)
  have e60 : ¬ f_like I (45 + 2 * s.toNatClampNeg) (45 + 2 * o.toNatClampNeg) = 0 := by rw [hli]; decide
  obtain ⟨m45, m60⟩ := hlike.mp hli
  have n45 : ¬ 0 ≤ I 87 s.toNatClampNeg := by grind
  have hS : I (45 + 2 * s.toNatClampNeg) 1 = 2 ∧ I 88 s.toNatClampNeg = I (45 + 2 * s.toNatClampNeg) 4 ∧ 0 ≤ I (45 + 2 * s.toNatClampNeg) 4 ∧ I (45 + 2 * s.toNatClampNeg) 4 ≤ 60 ∧ ∀ k : Nat, k < 60 → J 89 (60 * s.toNatClampNeg + k) = J (46 + 2 * s.toNatClampNeg) k := by
    rcases hr with a | a | ⟨a1, a2, a3, t, ht, et, a4, a5, a6, a7, a8⟩
    · exact absurd (Or.inl a.1) hem
    · have := a.2.1; exfalso; grind
    · exact ⟨a1, a5, a6, a7, a8⟩
  have hO : I (45 + 2 * o.toNatClampNeg) 1 = 2 ∧ I 88 o.toNatClampNeg = I (45 + 2 * o.toNatClampNeg) 4 ∧ 0 ≤ I (45 + 2 * o.toNatClampNeg) 4 ∧ I (45 + 2 * o.toNatClampNeg) 4 ≤ 60 := by
    rcases hro with a | a | ⟨a1, a2, a3, t, ht, et, a4, a5, a6, a7, a8⟩
    · exact absurd (Or.inr a.1) hem
    · have := a.2.1; exfalso; grind
    · exact ⟨a1, a5, a6, a7⟩
  clear hr hro hlike
  by_cases hpl : f_hasP I (45 + 2 * s.toNatClampNeg) i n = 1 ∧ f_hasP I (45 + 2 * o.toNatClampNeg) j n = 1
  case neg =>
    have r1 := @room_eq (I (45 + 2 * s.toNatClampNeg) 4) i n hS.2.2.1 hS.2.2.2.1
    have r2 := @room_eq (I (45 + 2 * o.toNatClampNeg) 4) j n hO.2.2.1 hO.2.2.2
    have s1 := f_hasP_01 (I := I) (a := 45 + 2 * s.toNatClampNeg) (i := i) (n := n)
    have s2 := f_hasP_01 (I := I) (a := 45 + 2 * o.toNatClampNeg) (i := j) (n := n)
    refine pair_of (v := -13) (v' := -13) (I1 := I) (I2 := I) (J1 := J) (J2 := J) ?_ ?_ rfl h
    · refine specF_of (L := [some (.ref 0), some (.int s), some (.int i), some (.int o), some (.int j), some (.int n), none, none]) (by decide) (Nat.le_of_ble_eq_true rfl) rfl ?_
      refine iX11_shift_0 (iX11_shift_1 (iX11_shift_2 (s_X11_isShelf _) (iX11_shift_5 (fun h5 => absurd h5 (n1)) (fun h5 => ?_))))
      refine iX11_shift_8 (iX11_shift_9 (iX11_shift_10 (s_X11_isShelf _) (iX11_shift_13 (fun h13 => ?_) (fun h13 => absurd (n2) (by first | exact h13 | exact fun q => q h13)))))
      refine iX11_shift_18 (iX11_shift_19 (iX11_shift_22 (iX11_shift_23 hvs (shelf_at hk).1 (iX11_shift_24 (iX11_shift_26 (iX11_shift_27 (iX11_shift_30 (iX11_shift_31 hvo (shelf_at hko).1 (iX11_shift_32 (iX11_shift_34 (iX11_shift_36 (hx).1 (s_X9_isEmpty hx) (iX11_shift_39 (fun h39 => absurd h39 (e39)) (fun h39 => ?_)))))))))))))
      refine iX11_shift_42 (iX11_shift_44 hy.1 (s_X9_isEmpty hy) (iX11_shift_47 (fun h47 => ?_) (fun h47 => absurd (e47) (by first | exact h47 | exact fun q => q h47))))
      refine iX11_shift_53 (iX11_shift_55 (iX11_shift_57 (hx).1 (s_X9_isLike hx hy) (iX11_shift_60 (fun h60 => ?_) (fun h60 => absurd (e60) (by first | exact h60 | exact fun q => q h60)))))
      refine iX11_shift_66 (iX11_shift_68 (iX11_shift_69 (iX11_shift_71 (hx).1 (s_X9_hasPlaces _ _ hx) (iX11_shift_74 (fun h74 => ?_) (fun h74 => ?_)))))
      · refine iX11_shift_89 (iX11_shift_91 ?_)
        first | exact ⟨rfl, rfl, rfl, rfl⟩ | (exfalso; (try simp only [f_in] at *); grind)
      · refine iX11_shift_77 (iX11_shift_79 (iX11_shift_81 (iX11_shift_83 hy.1 (s_X9_hasPlaces _ _ hy) (iX11_shift_86 (fun h86 => ?_) (fun h86 => ?_)))))
        · exfalso
          grind
        · refine iX11_shift_89 (iX11_shift_91 ?_)
          first | exact ⟨rfl, rfl, rfl, rfl⟩ | (exfalso; (try simp only [f_in] at *); grind)
    · refine specF_of (L := [some (.ref 57), some (.int s), some (.int i), some (.int o), some (.int j), some (.int n), none]) (by decide) (Nat.le_of_ble_eq_true rfl) rfl ?_
      refine iX12_shift_0 (iX12_shift_1 (s_X12_isShelf _) (iX12_shift_4 (fun h4 => absurd h4 (n1)) (fun h4 => ?_)))
      refine iX12_shift_7 (iX12_shift_8 (s_X12_isShelf _) (iX12_shift_11 (fun h11 => ?_) (fun h11 => absurd (n2) (by first | exact h11 | exact fun q => q h11))))
      refine iX12_shift_16 (iX12_shift_17 (iX12_shift_20 (iX12_shift_21 hvs (iX12_shift_22 (iX12_shift_23 (fun h23 => absurd h23 (m23)) (fun h23 => ?_))))))
      refine iX12_shift_26 (iX12_shift_27 (iX12_shift_30 (iX12_shift_31 hvo (iX12_shift_32 (iX12_shift_33 (fun h33 => ?_) (fun h33 => absurd (m33) (by first | exact h33 | exact fun q => q h33)))))))
      refine iX12_shift_39 (iX12_shift_40 (iX12_shift_43 (iX12_shift_44 hvs (iX12_shift_45 (fun h45 => absurd h45 (n45)) (fun h45 => ?_)))))
      refine iX12_shift_48 (iX12_shift_49 (iX12_shift_52 (iX12_shift_53 hvs (iX12_shift_54 (iX12_shift_55 (iX12_shift_58 (iX12_shift_59 hvo (iX12_shift_60 (fun h60 => ?_) (fun h60 => absurd (m60) (by first | exact h60 | exact fun q => q h60))))))))))
      refine iX12_shift_66 (iX12_shift_68 (fun h68 => ?_) (fun h68 => ?_))
      · refine iX12_shift_107 (iX12_shift_109 ?_)
        first | exact ⟨rfl, rfl, rfl, rfl⟩ | (exfalso; (try simp only [f_in] at *); grind)
      · refine iX12_shift_71 (iX12_shift_72 (fun h72 => ?_) (fun h72 => ?_))
        · refine iX12_shift_107 (iX12_shift_109 ?_)
          first | exact ⟨rfl, rfl, rfl, rfl⟩ | (exfalso; (try simp only [f_in] at *); grind)
        · refine iX12_shift_75 (iX12_shift_77 (fun h77 => ?_) (fun h77 => ?_))
          · refine iX12_shift_107 (iX12_shift_109 ?_)
            first | exact ⟨rfl, rfl, rfl, rfl⟩ | (exfalso; (try simp only [f_in] at *); grind)
          · refine iX12_shift_80 (iX12_shift_81 (iX12_shift_82 (iX12_shift_85 (iX12_shift_86 hvs (iX12_shift_87 (iX12_shift_89 (iX12_shift_90 (fun h90 => ?_) (fun h90 => ?_))))))))
            · refine iX12_shift_107 (iX12_shift_109 ?_)
              first | exact ⟨rfl, rfl, rfl, rfl⟩ | (exfalso; (try simp only [f_in] at *); grind)
            · refine iX12_shift_93 (iX12_shift_95 (iX12_shift_96 (iX12_shift_99 (iX12_shift_100 hvo (iX12_shift_101 (iX12_shift_103 (iX12_shift_104 (fun h104 => ?_) (fun h104 => ?_))))))))
              · exfalso
                have t1 : ¬ I (45 + 2 * s.toNatClampNeg) 4 - n < i := by rw [← hS.2.1]; grind
                have t2 : ¬ I (45 + 2 * o.toNatClampNeg) 4 - n < j := by rw [← hO.2.1]; grind
                have u1 := (r1 h72 h68).mpr t1
                have u2 := (r2 h77 h68).mpr t2
                refine hpl ⟨?_, ?_⟩
                · unfold f_hasP; rw [if_pos ⟨hS.1, h72, h68, u1.1, u1.2⟩]
                · unfold f_hasP; rw [if_pos ⟨hO.1, h77, h68, u2.1, u2.2⟩]
              · refine iX12_shift_107 (iX12_shift_109 ?_)
                first | exact ⟨rfl, rfl, rfl, rfl⟩ | (exfalso; (try simp only [f_in] at *); grind)
  obtain ⟨hp1, hp2⟩ := hpl
  have b1 : ¬ i < 0 ∧ ¬ n < 0 ∧ ¬ I (45 + 2 * s.toNatClampNeg) 4 < i ∧ ¬ I (45 + 2 * s.toNatClampNeg) 4 - i < n := by have q := hp1; unfold f_hasP at q; grind
  have b2 : ¬ j < 0 ∧ ¬ I (45 + 2 * o.toNatClampNeg) 4 < j ∧ ¬ I (45 + 2 * o.toNatClampNeg) 4 - j < n := by have q := hp2; unfold f_hasP at q; grind
  have r1 := (room_eq hS.2.2.1 hS.2.2.2.1 b1.1 b1.2.1).mp b1.2.2
  have r2 := (room_eq hO.2.2.1 hO.2.2.2 b2.1 b1.2.1).mp b2.2
  obtain ⟨i', n', hi1, hn1, ei, en, w1⟩ := f_hasP_n hp1 hS.2.2.2.1
  obtain ⟨j', n2', hj1, hn2, ej, en2, w2⟩ := f_hasP_n hp2 hO.2.2.2
  obtain rfl : n' = n2' := (nI_eq (by omega) (by omega)).mp (by rw [← en, ← en2])
  have c1 : i.toNatClampNeg = i' := by rw [ei]; exact nI_clamp (by omega)
  have c2 : j.toNatClampNeg = j' := by rw [ej]; exact nI_clamp (by omega)
  have c3 : n.toNatClampNeg = n' := by rw [en]; exact nI_clamp (by omega)
  have t1 : ¬ I 88 s.toNatClampNeg - n < i := by rw [hS.2.1]; exact r1
  have t2 : I 88 o.toNatClampNeg - n ≥ j := by rw [hO.2.1]; grind
  have scp := s_X9_copy (I := I) (J := J) i j n hy hx hp1 hp2 hS.2.2.2.1 hO.2.2.2
  rw [c1, c2, c3] at scp
  refine pair_of (v := n) (v' := n) (I1 := I) (I2 := I) (J1 := xcp J (46 + 2 * s.toNatClampNeg) (46 + 2 * o.toNatClampNeg) i' j' n') (J2 := xcp (xcp (xcp J (46 + 2 * s.toNatClampNeg) (46 + 2 * o.toNatClampNeg) i' j' n') 89 90 (60 * s.toNatClampNeg + i') 0 n') 90 89 0 (60 * o.toNatClampNeg + j') n') ?_ ?_ rfl ?_
  · refine specF_of (L := [some (.ref 0), some (.int s), some (.int i), some (.int o), some (.int j), some (.int n), none, none]) (by decide) (Nat.le_of_ble_eq_true rfl) rfl ?_
    have e74 : ¬ f_hasP I (45 + 2 * s.toNatClampNeg) i n = 0 := by rw [hp1]; decide
    have e86 : ¬ f_hasP I (45 + 2 * o.toNatClampNeg) j n = 0 := by rw [hp2]; decide
    refine iX11_shift_0 (iX11_shift_1 (iX11_shift_2 (s_X11_isShelf _) (iX11_shift_5 (fun h5 => absurd h5 (n1)) (fun h5 => ?_))))
    refine iX11_shift_8 (iX11_shift_9 (iX11_shift_10 (s_X11_isShelf _) (iX11_shift_13 (fun h13 => ?_) (fun h13 => absurd (n2) (by first | exact h13 | exact fun q => q h13)))))
    refine iX11_shift_18 (iX11_shift_19 (iX11_shift_22 (iX11_shift_23 hvs (shelf_at hk).1 (iX11_shift_24 (iX11_shift_26 (iX11_shift_27 (iX11_shift_30 (iX11_shift_31 hvo (shelf_at hko).1 (iX11_shift_32 (iX11_shift_34 (iX11_shift_36 (hx).1 (s_X9_isEmpty hx) (iX11_shift_39 (fun h39 => absurd h39 (e39)) (fun h39 => ?_)))))))))))))
    refine iX11_shift_42 (iX11_shift_44 hy.1 (s_X9_isEmpty hy) (iX11_shift_47 (fun h47 => ?_) (fun h47 => absurd (e47) (by first | exact h47 | exact fun q => q h47))))
    refine iX11_shift_53 (iX11_shift_55 (iX11_shift_57 (hx).1 (s_X9_isLike hx hy) (iX11_shift_60 (fun h60 => ?_) (fun h60 => absurd (e60) (by first | exact h60 | exact fun q => q h60)))))
    refine iX11_shift_66 (iX11_shift_68 (iX11_shift_69 (iX11_shift_71 (hx).1 (s_X9_hasPlaces _ _ hx) (iX11_shift_74 (fun h74 => absurd h74 (e74)) (fun h74 => ?_)))))
    refine iX11_shift_77 (iX11_shift_79 (iX11_shift_81 (iX11_shift_83 hy.1 (s_X9_hasPlaces _ _ hy) (iX11_shift_86 (fun h86 => ?_) (fun h86 => absurd (e86) (by first | exact h86 | exact fun q => q h86))))))
    refine iX11_shift_92 (iX11_shift_94 (iX11_shift_96 (iX11_shift_97 (iX11_shift_99 (iX11_shift_101 hy.1 scp (iX11_shift_104 (iX11_shift_106 ?_)))))))
    first | exact ⟨rfl, rfl, rfl, rfl⟩ | (exfalso; (try simp only [f_in] at *); grind)
  · refine specF_of (L := [some (.ref 57), some (.int s), some (.int i), some (.int o), some (.int j), some (.int n), none]) (by decide) (Nat.le_of_ble_eq_true rfl) rfl ?_
    refine iX12_shift_0 (iX12_shift_1 (s_X12_isShelf _) (iX12_shift_4 (fun h4 => absurd h4 (n1)) (fun h4 => ?_)))
    refine iX12_shift_7 (iX12_shift_8 (s_X12_isShelf _) (iX12_shift_11 (fun h11 => ?_) (fun h11 => absurd (n2) (by first | exact h11 | exact fun q => q h11))))
    refine iX12_shift_16 (iX12_shift_17 (iX12_shift_20 (iX12_shift_21 hvs (iX12_shift_22 (iX12_shift_23 (fun h23 => absurd h23 (m23)) (fun h23 => ?_))))))
    refine iX12_shift_26 (iX12_shift_27 (iX12_shift_30 (iX12_shift_31 hvo (iX12_shift_32 (iX12_shift_33 (fun h33 => ?_) (fun h33 => absurd (m33) (by first | exact h33 | exact fun q => q h33)))))))
    refine iX12_shift_39 (iX12_shift_40 (iX12_shift_43 (iX12_shift_44 hvs (iX12_shift_45 (fun h45 => absurd h45 (n45)) (fun h45 => ?_)))))
    refine iX12_shift_48 (iX12_shift_49 (iX12_shift_52 (iX12_shift_53 hvs (iX12_shift_54 (iX12_shift_55 (iX12_shift_58 (iX12_shift_59 hvo (iX12_shift_60 (fun h60 => ?_) (fun h60 => absurd (m60) (by first | exact h60 | exact fun q => q h60))))))))))
    refine iX12_shift_66 (iX12_shift_68 (fun h68 => absurd h68 (b1.2.1)) (fun h68 => ?_))
    refine iX12_shift_71 (iX12_shift_72 (fun h72 => absurd h72 (b1.1)) (fun h72 => ?_))
    refine iX12_shift_75 (iX12_shift_77 (fun h77 => absurd h77 (b2.1)) (fun h77 => ?_))
    refine iX12_shift_80 (iX12_shift_81 (iX12_shift_82 (iX12_shift_85 (iX12_shift_86 hvs (iX12_shift_87 (iX12_shift_89 (iX12_shift_90 (fun h90 => absurd h90 (t1)) (fun h90 => ?_))))))))
    refine iX12_shift_93 (iX12_shift_95 (iX12_shift_96 (iX12_shift_99 (iX12_shift_100 hvo (iX12_shift_101 (iX12_shift_103 (iX12_shift_104 (fun h104 => ?_) (fun h104 => absurd (t2) (by first | exact h104 | exact fun q => q h104)))))))))
    refine iX12_shift_110 (iX12_shift_111 ?_)
    rw [ei, ej, en]
    have l1 := fun Q kk => shift_1 (d := 1000) (s := s) (o := o) (k := s.toNatClampNeg) (i' := i') (j' := j') (n' := n') (I := I) (J := xcp J (46 + 2 * s.toNatClampNeg) (46 + 2 * o.toNatClampNeg) i' j' n') (Q := Q) hk hks w1 kk n' 0 (by omega)
    rw [xcp_0] at l1
    refine l1 _ ?_
    refine iX12_shift_147 (iX12_shift_148 ?_)
    have l2 := fun Q kk => shift_2 (d := 1000) (s := s) (o := o) (k := o.toNatClampNeg) (i' := i') (j' := j') (n' := n') (I := I) (J := xcp (xcp J (46 + 2 * s.toNatClampNeg) (46 + 2 * o.toNatClampNeg) i' j' n') 89 90 (60 * s.toNatClampNeg + i') 0 n') (Q := Q) hko hkso w2 kk n' 0 (by omega)
    rw [xcp_0] at l2
    exact l2 _ ⟨rfl, rfl, rfl, rfl⟩
  generalize s.toNatClampNeg = k at *
  generalize o.toNatClampNeg = k' at *
  have g8 := hsh k' hko
  refine inv_frame h fr0 (ivSh_upd hsh k' rfl (fun u hu hn => ?_) ?_)
  · refine ⟨rfl, by simp (disch := omega) only [xcp_row], rfl, rfl, fun q hq => ?_⟩
    rw [xcp_at, if_neg (by omega), xcp_row (by decide), xcp_row (by omega)]
  · rcases g8 with a | a | ⟨q1, q2, q3, q4, q5, q6, q7, q8⟩
    · exact Or.inl a
    · exact Or.inr (Or.inl a)
    · refine Or.inr (Or.inr ⟨q1, q2, q3, q4, q5, q6, q7, fun q hq => ?_⟩)
      by_cases hc : j' ≤ q ∧ q < j' + n'
      · have hl : xcp (xcp (xcp J (46 + 2 * k) (46 + 2 * k') i' j' n') 89 90 (60 * k + i') 0 n') 90 89 0 (60 * k' + j') n' 89 (60 * k' + q) = J 89 (60 * k + (i' + (q - j'))) := by
          rw [xcp_at, if_pos (by omega), xcp_at, if_pos (by omega), xcp_row (by omega)]
          congr 1
          omega
        rw [hl, xcp_row (by omega), xcp_row (by omega), xcp_at, if_pos hc]
        exact hS.2.2.2.2 (i' + (q - j')) (by omega)
      · have hl : xcp (xcp (xcp J (46 + 2 * k) (46 + 2 * k') i' j' n') 89 90 (60 * k + i') 0 n') 90 89 0 (60 * k' + j') n' 89 (60 * k' + q) = J 89 (60 * k' + q) := by
          rw [xcp_at, if_neg (by omega), xcp_row (by decide), xcp_row (by omega)]
        rw [hl, xcp_row (by omega), xcp_row (by omega), xcp_at, if_neg hc]
        exact q8 q hq
