/-! ===== the class parses ===== -/
def TpC (c : Nat → Int32) (n : Nat) (I : xI) (p z : Nat) : Prop := I 17 2 = nI n ∧ n ≤ 120 ∧ byT c n ∧ (∀ q, q < n → I 18 q = c q) ∧ I 17 3 = nI p ∧ p ≤ n ∧ I 17 4 = nI z
def cR (I0 : xI) (J0 : xJ) (c : Nat → Int32) (z : Nat) (r : pR) : xP := fun v g i j => g = xG1 ∧ j = J0 ∧ xFr [17, 19] I0 i ∧ i 17 2 = I0 17 2 ∧ i 17 3 = nI r.2.1 ∧ ((r.1 = true ∧ v = some (.int 1) ∧ i 17 4 = nI (z + r.2.2.length) ∧ (∀ (k : Nat) (t : Int32), r.2.2[k]? = some t → i 19 (z + k) = t) ∧ ∀ k, k < z → i 19 k = I0 19 k) ∨ (r.1 = false ∧ (v = some (.int 0) ∨ (v = some (.int 1) ∧ dg (c r.2.1))) ∧ ∃ z', z' ≤ 121 ∧ i 17 4 = nI z'))
theorem TpC.fr {c : Nat → Int32} {n : Nat} {I i : xI} {p z p' z' : Nat} (h : TpC c n I p z) (f : xFr [17, 19] I i) (h2 : i 17 2 = I 17 2) (h3 : i 17 3 = nI p') (hp : p' ≤ n) (h4 : i 17 4 = nI z') : TpC c n i p' z' := ⟨h2.trans h.1, h.2.1, h.2.2.1, fun q hq => by rw [f 18 (by decide)]; exact h.2.2.2.1 q hq, h3, hp, h4⟩
theorem dg_in {x : Int32} : dg x ↔ ¬ f_in x 48 57 = 0 := by
  unfold dg f_in
  grind
theorem lvI_dg {x : Int32} (h : dg x) : lvI x = -1 := by
  unfold lvI
  unfold dg at h
  grind
section
variable {I : xI} {J : xJ} {c : Nat → Int32} {n : Nat}
theorem s_X10_next {p z : Nat} (h : TpC c n I p z) : SpecF 0 M_X10_next [.ref 17] xG1 I J (some (.int (c p))) I J := by
  obtain ⟨h1, h2, h3, h4, h5, h6, h7⟩ := h
  refine specF_of (L := [some (.ref 17)]) (by decide) (Nat.le_of_ble_eq_true rfl) rfl ?_
  by_cases q : p < n
  · refine iX10_next_0 (iX10_next_1 (iX10_next_4 (iX10_next_5 ?_)))
    rw [h5, h1]
    refine iX10_next_8 (fun h8 => absurd h8 (nI_ge q (by omega))) (fun h8 => ?_)
    refine iX10_next_11 (iX10_next_12 (iX10_next_15 (iX10_next_16 ?_)))
    rw [h5]
    refine iX10_next_19 (vp_in_nI (by omega) (by omega)) (iX10_next_20 (iX10_next_24 ?_))
    exact ⟨by rw [nI_clamp (by omega), h4 p q], rfl, rfl, rfl⟩
  · refine iX10_next_0 (iX10_next_1 (iX10_next_4 (iX10_next_5 ?_)))
    rw [h5, h1]
    refine iX10_next_8 (fun h8 => ?_) (fun h8 => by first | exact absurd (nI_le (a := n) (b := p) (by omega) (by omega)) h8 | exact absurd h8 (nI_le (a := n) (b := p) (by omega) (by omega)))
    refine iX10_next_23 (iX10_next_24 ?_)
    exact ⟨by rw [h3 p (by omega)], rfl, rfl, rfl⟩
theorem s_X10_isDigit (x : Int32) : SpecF 0 M_X10_isDigit [.int x] xG1 I J (some (.int (f_in x 48 57))) I J := by
  refine specF_of (L := [some (.int x)]) (by decide) (Nat.le_of_ble_eq_true rfl) rfl ?_
  refine iX10_isDigit_0 (iX10_isDigit_1 (iX10_isDigit_3 (fun h3 => ?_) (fun h3 => ?_)))
  · refine iX10_isDigit_16 (iX10_isDigit_17 ?_)
    exact ⟨congrArg (fun z => some (Value.int z)) (by unfold f_in; grind), rfl, rfl, rfl⟩
  · refine iX10_isDigit_6 (iX10_isDigit_7 (iX10_isDigit_9 (fun h9 => ?_) (fun h9 => ?_)))
    · refine iX10_isDigit_16 (iX10_isDigit_17 ?_)
      exact ⟨congrArg (fun z => some (Value.int z)) (by unfold f_in; grind), rfl, rfl, rfl⟩
    · refine iX10_isDigit_12 (iX10_isDigit_13 (iX10_isDigit_17 ?_))
      exact ⟨congrArg (fun z => some (Value.int z)) (by unfold f_in; grind), rfl, rfl, rfl⟩
theorem s_X6_nameOf (x : Int32) : SpecF 0 M_X6_nameOf [.int x] xG1 I J (some (.int (nameI x))) I J := by
  refine specF_of (L := [some (.int x)]) (by decide) (Nat.le_of_ble_eq_true rfl) rfl ?_
  refine iX6_nameOf_0 (iX6_nameOf_1 (fun h1 => ?_) (fun h1 => ?_) (fun h1 => ?_) (fun h1 => ?_) (fun h1 => ?_) (fun h1 => ?_) (fun h1_0 h1_1 h1_2 h1_3 h1_4 h1_5 => ?_))
  · refine iX6_nameOf_88 (iX6_nameOf_89 ?_)
    exact ⟨congrArg (fun z => some (Value.int z)) (by unfold nameI; grind), rfl, rfl, rfl⟩
  · refine iX6_nameOf_98 (iX6_nameOf_99 ?_)
    exact ⟨congrArg (fun z => some (Value.int z)) (by unfold nameI; grind), rfl, rfl, rfl⟩
  · refine iX6_nameOf_94 (iX6_nameOf_95 ?_)
    exact ⟨congrArg (fun z => some (Value.int z)) (by unfold nameI; grind), rfl, rfl, rfl⟩
  · refine iX6_nameOf_96 (iX6_nameOf_97 ?_)
    exact ⟨congrArg (fun z => some (Value.int z)) (by unfold nameI; grind), rfl, rfl, rfl⟩
  · refine iX6_nameOf_90 (iX6_nameOf_91 ?_)
    exact ⟨congrArg (fun z => some (Value.int z)) (by unfold nameI; grind), rfl, rfl, rfl⟩
  · refine iX6_nameOf_92 (iX6_nameOf_93 ?_)
    exact ⟨congrArg (fun z => some (Value.int z)) (by unfold nameI; grind), rfl, rfl, rfl⟩
  · refine iX6_nameOf_100 (iX6_nameOf_101 ?_)
    exact ⟨congrArg (fun z => some (Value.int z)) (by unfold nameI; grind), rfl, rfl, rfl⟩
theorem s_X10_levelOf (x : Int32) : SpecF 0 M_X10_levelOf [.int x] xG1 I J (some (.int (lvI x))) I J := by
  refine specF_of (L := [some (.int x)]) (by decide) (Nat.le_of_ble_eq_true rfl) rfl ?_
  refine iX10_levelOf_0 (iX10_levelOf_1 (fun h1 => ?_) (fun h1 => ?_) (fun h1 => ?_) (fun h1 => ?_) (fun h1 => ?_) (fun h1 => ?_) (fun h1 => ?_) (fun h1 => ?_) (fun h1 => ?_) (fun h1 => ?_) (fun h1_0 h1_1 h1_2 h1_3 h1_4 h1_5 h1_6 h1_7 h1_8 h1_9 => ?_))
  · refine iX10_levelOf_100 (iX10_levelOf_101 ?_)
    exact ⟨congrArg (fun z => some (Value.int z)) (by unfold lvI; grind), rfl, rfl, rfl⟩
  · refine iX10_levelOf_94 (iX10_levelOf_95 ?_)
    exact ⟨congrArg (fun z => some (Value.int z)) (by unfold lvI; grind), rfl, rfl, rfl⟩
  · refine iX10_levelOf_100 (iX10_levelOf_101 ?_)
    exact ⟨congrArg (fun z => some (Value.int z)) (by unfold lvI; grind), rfl, rfl, rfl⟩
  · refine iX10_levelOf_98 (iX10_levelOf_99 ?_)
    exact ⟨congrArg (fun z => some (Value.int z)) (by unfold lvI; grind), rfl, rfl, rfl⟩
  · refine iX10_levelOf_98 (iX10_levelOf_99 ?_)
    exact ⟨congrArg (fun z => some (Value.int z)) (by unfold lvI; grind), rfl, rfl, rfl⟩
  · refine iX10_levelOf_100 (iX10_levelOf_101 ?_)
    exact ⟨congrArg (fun z => some (Value.int z)) (by unfold lvI; grind), rfl, rfl, rfl⟩
  · refine iX10_levelOf_96 (iX10_levelOf_97 ?_)
    exact ⟨congrArg (fun z => some (Value.int z)) (by unfold lvI; grind), rfl, rfl, rfl⟩
  · refine iX10_levelOf_96 (iX10_levelOf_97 ?_)
    exact ⟨congrArg (fun z => some (Value.int z)) (by unfold lvI; grind), rfl, rfl, rfl⟩
  · refine iX10_levelOf_96 (iX10_levelOf_97 ?_)
    exact ⟨congrArg (fun z => some (Value.int z)) (by unfold lvI; grind), rfl, rfl, rfl⟩
  · refine iX10_levelOf_92 (iX10_levelOf_93 ?_)
    exact ⟨congrArg (fun z => some (Value.int z)) (by unfold lvI; grind), rfl, rfl, rfl⟩
  · refine iX10_levelOf_102 (iX10_levelOf_103 ?_)
    exact ⟨congrArg (fun z => some (Value.int z)) (by unfold lvI; grind), rfl, rfl, rfl⟩
theorem s_X10_emit {z : Nat} (hz : z < 121) (h4 : I 17 4 = nI z) (t : Int32) : SpecF 0 M_X10_emit [.ref 17, .int t] xG1 I J none (xu (xu I 17 4 (nI (z + 1))) 19 z t) J := by
  have e1 : nI z + 1 = nI (z + 1) := nI_1 _
  refine specF_of (L := [some (.ref 17), some (.int t)]) (by decide) (Nat.le_of_ble_eq_true rfl) rfl ?_
  refine iX10_emit_0 (iX10_emit_1 (iX10_emit_4 (iX10_emit_5 (iX10_emit_8 ?_))))
  rw [h4]
  refine iX10_emit_9 (fun h9 => absurd h9 (nI_ge (b := 121) hz (by omega))) (fun h9 => ?_)
  refine iX10_emit_12 (iX10_emit_13 (iX10_emit_16 (iX10_emit_17 (iX10_emit_18 ?_))))
  rw [h4]
  refine iX10_emit_21 (iX10_emit_22 (iX10_emit_23 ?_))
  rw [e1]
  refine iX10_emit_24 (iX10_emit_27 (iX10_emit_28 (vp_in_nI hz (by omega)) (iX10_emit_29 ?_)))
  exact ⟨rfl, rfl, by rw [nI_clamp (by omega)], rfl⟩
/-- whatever it emits -/
theorem s_X10_emit_any {z : Nat} (hz : z ≤ 121) (h4 : I 17 4 = nI z) (t : Int32) : Spec 0 (1000000, 0, 0) M_X10_emit [.ref 17, .int t] xG1 I J (fun r g i j => r = none ∧ g = xG1 ∧ j = J ∧ xFr [17, 19] I i ∧ i 17 2 = I 17 2 ∧ i 17 3 = I 17 3 ∧ ∃ z', z' ≤ 121 ∧ i 17 4 = nI z') := by
  by_cases q : z < 121
  · refine Spec.weaken (sc := none) (s_X10_emit (J := J) q h4 t) (fun r g i j hp => ?_)
    obtain ⟨rfl, rfl, rfl, rfl⟩ := hp
    exact ⟨rfl, rfl, rfl, (xFr.rf.up (by decide)).up (by decide), by rw [xu_row (by decide), xu_col (by decide)], by rw [xu_row (by decide), xu_col (by decide)], z + 1, by omega, by rw [xu_row (by decide), xu_eq]⟩
  · refine spec_of (L := [some (.ref 17), some (.int t)]) (by decide) (Nat.le_of_ble_eq_true rfl) rfl ?_
    refine iX10_emit_0 (iX10_emit_1 (iX10_emit_4 (iX10_emit_5 (iX10_emit_8 ?_))))
    rw [h4]
    refine iX10_emit_9 (fun h9 => ?_) (fun h9 => by first | exact absurd (nI_le (a := 121) (b := z) (by omega) (by omega)) h9 | exact absurd h9 (nI_le (a := 121) (b := z) (by omega) (by omega)))
    refine iX10_emit_29 ?_
    exact ⟨rfl, rfl, rfl, xFr.rf, rfl, rfl, z, hz, h4⟩
theorem c_num {p0 z : Nat} {I0 : xI} (hz : z ≤ p0) {R : Nat × Nat} (hRE : nmG c 4 p0 0 = R) (hR1 : R.1 ≠ p0) (hR0 : p0 < R.1) : ∀ (k p v : Nat), k ≤ 4 → nmG c k p v = R → ∀ I, xFr [17, 19] I0 I → I 17 2 = I0 17 2 → (∀ q, q < z → I 19 q = I0 19 q) → TpC c n I p z → WP 3 (1000000, 0, 0) none M_X10_isNumber (cR I0 J c z (pNum c p0)) 4 [some (.ref 17), some (.int (nI v)), some (.int (nI (4 - k)))] [] xG1 I J := by
  -- behind the digits
  have out : ∀ (I : xI), xFr [17, 19] I0 I → I 17 2 = I0 17 2 → (∀ q, q < z → I 19 q = I0 19 q) → TpC c n I R.1 z → ∀ a2, WP 3 (1000000, 0, 0) none M_X10_isNumber (cR I0 J c z (pNum c p0)) 48 [some (.ref 17), some (.int (nI R.2)), a2] [] xG1 I J := by
    intro I hI h2 h19 hT a2
    obtain ⟨t1, t2, t3, t4, t5, t6, t7⟩ := id hT
    by_cases q : dg (c R.1)
    · have e : pNum c p0 = (false, R.1, []) := by unfold pNum; rw [hRE, if_pos (Or.inr q)]
      rw [e]
      refine iX10_isNumber_48 (iX10_isNumber_49 (jX10_isNumber_50 (s_X10_emit_any (J := J) (by omega) t7 (nI R.2)) (fun r50 g50 I50 J50 hq => ?_)))
      obtain ⟨rfl, rfl, rfl, g1, g2, g3, z', g4, g5⟩ := hq
      refine iX10_isNumber_53 (iX10_isNumber_54 ?_)
      exact ⟨rfl, rfl, hI.tr g1, g2.trans h2, g3.trans t5, Or.inr ⟨rfl, Or.inr ⟨rfl, q⟩, z', g4, g5⟩⟩
    · have e : pNum c p0 = (true, R.1, [nI R.2]) := by unfold pNum; rw [hRE, if_neg (by rintro (w | w); exact hR1 w; exact q w)]
      rw [e]
      refine iX10_isNumber_48 (iX10_isNumber_49 (iX10_isNumber_50 (s_X10_emit (J := J) (z := z) (by omega) t7 (nI R.2)) (iX10_isNumber_53 (iX10_isNumber_54 ?_))))
      refine ⟨rfl, rfl, (hI.up (by decide)).up (by decide), by rw [xu_row (by decide), xu_col (by decide)]; exact h2, by rw [xu_row (by decide), xu_col (by decide)]; exact t5, Or.inl ⟨rfl, rfl, by rw [xu_row (by decide), xu_eq]; rfl, fun k t hk => ?_, fun k hk => ?_⟩⟩
      · match k, hk with
        | 0, hk => cases hk; exact xu_eq
      · rw [xu_col (by omega), xu_row (by decide)]
        exact h19 k hk
  intro k
  induction k with
  | zero =>
    intro p v hk hR I hI h2 h19 hT
    simp only [nmG] at hR
    subst hR
    refine iX10_isNumber_4 (iX10_isNumber_5 (iX10_isNumber_6 (fun h6 => ?_) (fun h6 => by first | exact absurd (Int32.le_refl _) h6 | exact absurd h6 (Int32.le_refl _))))
    exact out I hI h2 h19 hT _
  | succ k ih =>
    intro p v hk hR I hI h2 h19 hT
    obtain ⟨t1, t2, t3, t4, t5, t6, t7⟩ := id hT
    have f6 : ¬ (4 : Int32) ≤ nI (4 - (k + 1)) := nI_ge (b := 4) (by omega) (by omega)
    simp only [nmG] at hR
    by_cases q : dg (c p)
    · rw [if_pos q] at hR
      obtain ⟨d, hd, ed, ed2⟩ := dg_n q
      rw [ed2] at hR
      have ev : 10 * nI v + c p - 48 = nI (10 * v + d) := by
        rw [ed, show (10 : Int32) * nI v = nI (10 * v) from pk_mul 10 v, nI_add, show nI (10 * v + (48 + d)) - 48 = nI (10 * v + (48 + d) - 48) from pk_sub (b := 48) (by omega), show 10 * v + (48 + d) - 48 = 10 * v + d by omega]
      have ep : nI p + 1 = nI (p + 1) := nI_1 _
      have ek : nI (4 - (k + 1)) + (1) = nI (4 - k) := by rw [nI_1, show 4 - (k + 1) + 1 = 4 - k by omega]
      have hp1 : p < n := byT_lt t3 (fun w => by rw [w] at q; exact absurd q.1 (by decide))
      refine iX10_isNumber_4 (iX10_isNumber_5 (iX10_isNumber_6 (fun h6 => absurd h6 (f6)) (fun h6 => ?_)))
      refine iX10_isNumber_9 (iX10_isNumber_10 (s_X10_next hT) (iX10_isNumber_13 (s_X10_isDigit _) (iX10_isNumber_16 (fun h16 => absurd h16 (dg_in.mp q)) (fun h16 => ?_))))
      refine iX10_isNumber_19 (iX10_isNumber_21 (iX10_isNumber_22 (iX10_isNumber_23 (iX10_isNumber_24 (s_X10_next hT) (iX10_isNumber_27 (iX10_isNumber_28 (iX10_isNumber_30 ?_)))))))
      rw [ev]
      refine iX10_isNumber_31 (iX10_isNumber_32 (iX10_isNumber_33 (iX10_isNumber_34 ?_)))
      rw [t5]
      refine iX10_isNumber_37 (iX10_isNumber_38 ?_)
      rw [ep]
      refine iX10_isNumber_39 (iX10_isNumber_42 (iX10_isNumber_45 ?_))
      rw [ek]
      exact ih (p + 1) (10 * v + d) (by omega) hR _ (hI.up (by decide)) (by rw [xu_col (by decide)]; exact h2) (fun q hq => by rw [xu_row (by decide)]; exact h19 q hq) (hT.fr (xFr.rf.up (by decide)) (xu_col (by decide)) xu_eq (by omega) (by rw [xu_col (by decide)]; exact t7))
    · rw [if_neg q] at hR
      subst hR
      refine iX10_isNumber_4 (iX10_isNumber_5 (iX10_isNumber_6 (fun h6 => absurd h6 (f6)) (fun h6 => ?_)))
      refine iX10_isNumber_9 (iX10_isNumber_10 (s_X10_next hT) (iX10_isNumber_13 (s_X10_isDigit _) (iX10_isNumber_16 (fun h16 => ?_) (fun h16 => by first | exact absurd ((Decidable.byContradiction fun w => q (dg_in.mpr w))) h16 | exact absurd h16 ((Decidable.byContradiction fun w => q (dg_in.mpr w)))))))
      exact out I hI h2 h19 hT _
theorem s_X10_isNumber {p z : Nat} (hT : TpC c n I p z) (hz : z ≤ p) (q : dg (c p)) : Spec 3 (1000000, 0, 0) M_X10_isNumber [.ref 17] xG1 I J (cR I J c z (pNum c p)) := by
  obtain ⟨t1, t2, t3, t4, t5, t6, t7⟩ := id hT
  have hp1 : p < n := byT_lt t3 (fun w => by rw [w] at q; exact absurd q.1 (by decide))
  have h1 : p < (nmG c 4 p 0).1 := by
    have : nmG c 4 p 0 = nmG c 3 (p + 1) (10 * 0 + (c p - 48).toNatClampNeg) := by
      show @ite _ (dg (c p)) (Classical.propDecidable _) _ _ = _
      rw [if_pos q]
    rw [this]
    have := (nmG_ok t3 3 (p + 1) (10 * 0 + (c p - 48).toNatClampNeg) (by omega)).1
    omega
  refine spec_of (L := [some (.ref 17), none, none]) (by decide) (Nat.le_of_ble_eq_true rfl) rfl ?_
  have := c_num (J := J) (I0 := I) hz rfl (by omega) h1 4 p 0 (by omega) rfl I xFr.rf rfl (fun _ _ => rfl) hT
  exact iX10_isNumber_0 (iX10_isNumber_1 (iX10_isNumber_2 (iX10_isNumber_3 this)))
end
