/-! ===== the class takes a law ===== -/
section
variable {J : xJ} {c l : Nat → Int32} {n : Nat}
theorem s_X10_fault {I : xI} (t1 : I 17 2 = nI n) (t2 : n ≤ 120) (t3 : byT c n) (t4 : ∀ q, q < n → I 18 q = c q) : Spec 62 (1000000, 0, 0) M_X10_fault [.ref 17] xG1 I J (fltQ I J (pText c n 100 0 [])) := by
  refine spec_of (L := [some (.ref 17), none]) (by decide) (Nat.le_of_ble_eq_true rfl) rfl ?_
  have fz : xFr [17, 19] I (xu (xu I 17 3 0) 17 4 0) := (xFr.rf.up (by decide)).up (by decide)
  have ct := c_text (J := J) (c := c) (n := n) (I0 := I) 100 0 0 [] (xu (xu I 17 3 0) 17 4 0) rfl (Nat.le_refl _) fz (by rw [xu_col (by decide), xu_col (by decide)]) ⟨by rw [xu_col (by decide), xu_col (by decide)]; exact t1, t2, t3, fun q hq => by rw [xu_row (by decide), xu_row (by decide)]; exact t4 q hq, by rw [xu_col (by decide), xu_eq]; rfl, Nat.zero_le _, xu_eq⟩ (Nat.le_refl _) (fun k t hk => by simp [lwClass] at hk)
  refine iX10_fault_0 (iX10_fault_1 (iX10_fault_2 (iX10_fault_5 (iX10_fault_6 (iX10_fault_7 (iX10_fault_10 (iX10_fault_11 ?_)))))))
  exact ct
theorem s_X10_codeSize {I : xI} : SpecF 0 M_X10_codeSize [.ref 17] xG1 I J (some (.int (I 17 4))) I J := by
  refine specF_of (L := [some (.ref 17)]) (by decide) (Nat.le_of_ble_eq_true rfl) rfl ?_
  refine iX10_codeSize_0 (iX10_codeSize_1 (iX10_codeSize_4 ?_))
  exact ⟨rfl, rfl, rfl, rfl⟩
theorem s_X10_codeAt {I : xI} {m k : Nat} (h4 : I 17 4 = nI m) (hm : m ≤ 121) (hk : k < m) : SpecF 0 M_X10_codeAt [.ref 17, .int (nI k)] xG1 I J (some (.int (I 19 k))) I J := by
  refine specF_of (L := [some (.ref 17), some (.int (nI k))]) (by decide) (Nat.le_of_ble_eq_true rfl) rfl ?_
  refine iX10_codeAt_0 (iX10_codeAt_1 (fun h1 => absurd h1 (Int32.not_lt.mpr (nI_pos' (by omega)))) (fun h1 => ?_))
  refine iX10_codeAt_4 (iX10_codeAt_5 (iX10_codeAt_6 ?_))
  rw [h4]
  refine iX10_codeAt_9 (fun h9 => absurd h9 (nI_ge hk (by omega))) (fun h9 => ?_)
  refine iX10_codeAt_12 (iX10_codeAt_13 (iX10_codeAt_16 (iX10_codeAt_17 (vp_in_nI (by omega) (by omega)) (iX10_codeAt_18 (iX10_codeAt_22 ?_)))))
  exact ⟨by rw [nI_clamp (by omega)], rfl, rfl, rfl⟩
theorem s_X10_clear {I : xI} : SpecF 0 M_X10_clear [.ref 17] xG1 I J none (xu I 17 2 0) J := by
  refine specF_of (L := [some (.ref 17)]) (by decide) (Nat.le_of_ble_eq_true rfl) rfl ?_
  refine iX10_clear_0 (iX10_clear_1 (iX10_clear_2 (iX10_clear_5 ?_)))
  exact ⟨rfl, rfl, rfl, rfl⟩
def becQ (I : xI) (J : xJ) (m : Nat) : xP := fun v g i j => v = none ∧ g = xG1 ∧ j = J ∧ xFr [2, 3] I i ∧ i 2 3 = nI m ∧ ∀ k, k < m → i 3 k = I 19 k
theorem s_X6_become {I : xI} {m : Nat} (h4 : I 17 4 = nI m) (hm : m ≤ 121) : Spec 2 (1000000, 0, 0) M_X6_become [.ref 2, .ref 17] xG1 I J (becQ I J m) := by
  refine spec_of (L := [some (.ref 2), some (.ref 17), none]) (by decide) (Nat.le_of_ble_eq_true rfl) rfl ?_
  have em : f_min (nI m) 121 = nI m := by
    unfold f_min
    by_cases q : m = 121
    · subst q; rfl
    · exact if_neg (nI_nlt (a := 121) (b := m) (by omega) (by omega))
  have loop : ∀ (f k : Nat) (i : xI), k + f = m → xFr [2, 3] I i → i 2 3 = nI m → (∀ j, j < k → i 3 j = I 19 j) → WP 2 (1000000, 0, 0) none M_X6_become (becQ I J m) 18 [some (.ref 2), some (.ref 17), some (.int (nI k))] [] xG1 i J := by
    intro f
    induction f with
    | zero =>
      intro k i hk h1 h2 h3
      refine iX6_become_18 (iX6_become_19 (iX6_become_20 ?_))
      rw [h2]
      refine iX6_become_23 (fun h23 => ?_) (fun h23 => by first | exact absurd (nI_le (a := m) (b := k) (by omega) (by omega)) h23 | exact absurd h23 (nI_le (a := m) (b := k) (by omega) (by omega)))
      refine iX6_become_43 ?_
      exact ⟨rfl, rfl, rfl, h1, h2, fun j hj => h3 j (by omega)⟩
    | succ f ih =>
      intro k i hk h1 h2 h3
      have i4 : i 17 4 = nI m := by rw [h1 17 (by decide)]; exact h4
      have i19 : i 19 k = I 19 k := by rw [h1 19 (by decide)]
      have ek : nI k + (1) = nI (k + 1) := nI_1 _
      refine iX6_become_18 (iX6_become_19 (iX6_become_20 ?_))
      rw [h2]
      refine iX6_become_23 (fun h23 => absurd h23 (nI_ge (a := k) (b := m) (by omega) (by omega))) (fun h23 => ?_)
      refine iX6_become_26 (iX6_become_27 (iX6_become_30 (iX6_become_31 (iX6_become_32 (iX6_become_33 (by decide +kernel) (s_X10_codeAt i4 hm (by omega)) ?_)))))
      rw [i19]
      refine iX6_become_36 (vp_in_nI (by omega) (by omega)) ?_
      rw [nI_clamp (by omega)]
      refine iX6_become_37 (iX6_become_40 ?_)
      rw [ek]
      refine ih (k + 1) _ (by omega) (h1.up (by decide)) (by rw [xu_row (by decide)]; exact h2) (fun j hj => ?_)
      by_cases q : j = k
      · subst q
        rw [xu_eq]
      · rw [xu_col q]
        exact h3 j (by omega)
  refine iX6_become_0 (iX6_become_1 (iX6_become_2 (by decide +kernel) s_X10_codeSize ?_))
  rw [h4]
  refine iX6_become_5 (iX6_become_6 (iX6_become_9 (iX6_become_10 (s_J9_min _ _) ?_)))
  rw [em]
  refine iX6_become_13 (iX6_become_16 (iX6_become_17 ?_))
  exact loop m 0 _ (Nat.zero_add _) (xFr.rf.up (by decide)) xu_eq (fun j hj => absurd hj (Nat.not_lt_zero j))
theorem s_X5_follow {I : xI} {m : Nat} (h4 : I 17 4 = nI m) (hm : m ≤ 121) : Spec 10 (1000000, 0, 0) M_X5_follow [.ref 1, .ref 17] xG1 I J (becQ I J m) := by
  have sb := s_X6_become (J := J) h4 hm
  refine spec_of (L := [some (.ref 1), some (.ref 17)]) (by decide) (Nat.le_of_ble_eq_true rfl) rfl ?_
  refine iX5_follow_0 (iX5_follow_1 (iX5_follow_4 (jX5_follow_5 sb (hdd := by omega) (fun r5 g5 I5 J5 hq => ?_))))
  obtain ⟨rfl, rfl, rfl, b1, b2, b3⟩ := hq
  refine iX5_follow_8 ?_
  exact ⟨rfl, rfl, rfl, b1, b2, b3⟩
def cLawQ (I : xI) (J : xJ) (r : Bool × Nat × lwT) : xP := fun v g i j => g = xG1 ∧ j = J ∧ xFr [2, 3, 17, 19] I i ∧ i 17 2 = 0 ∧ ((r.1 = true ∧ v = some (.int 1) ∧ i 2 3 = nI (lwClass r.2.2).length ∧ st19 (i 3) 0 (lwClass r.2.2)) ∨ (r.1 = false ∧ v = some (.int (-100 - nI r.2.1)) ∧ i 2 = I 2 ∧ i 3 = I 3))
theorem s_X11_law {I : xI} (t1 : I 17 2 = nI n) (t2 : n ≤ 120) (t3 : byT c n) (t4 : ∀ q, q < n → I 18 q = c q) : Spec 1000 (1000000, 0, 0) M_X11_law [.ref 0] xG1 I J (cLawQ I J (pText c n 100 0 [])) := by
  have ok := pText_ok t3 100 0 [] (Nat.zero_le _) (Nat.le_refl _) (Nat.le_refl _) (Nat.le_refl _) (fun l hl => by cases hl)
  have sp := s_X10_fault (J := J) t1 t2 t3 t4
  refine spec_of (L := [some (.ref 0), none]) (by decide) (Nat.le_of_ble_eq_true rfl) rfl ?_
  generalize pText c n 100 0 [] = R at *
  obtain ⟨ok1, ok2⟩ := ok
  have fin : ∀ (i : xI) (v : Option Value), fltQ I J R v xG1 i J → WP 1000 (1000000, 0, 0) none M_X11_law (cLawQ I J R) 7 [some (.ref 0), none] (v.toList ++ []) xG1 i J := by
    intro i v hv
    obtain ⟨-, -, a1, a2, a3⟩ := hv
    have a1' : xFr [2, 3, 17, 19] I i := a1.mono (by decide)
    rcases a3 with ⟨d1, rfl, d3, d4⟩ | ⟨d1, rfl⟩
    · obtain ⟨ne, oks, len1, len2, len3⟩ := ok2 d1
      have sb := s_X5_follow (J := J) d3 (by omega)
      refine iX11_law_7 (iX11_law_8 (iX11_law_9 (fun h9 => absurd h9 ((by decide : ¬ (0 : Int32) ≤ -1))) (fun h9 => ?_)))
      refine iX11_law_12 (iX11_law_13 (iX11_law_16 (iX11_law_17 (jX11_law_20 sb (hdd := by omega) (fun r20 g20 I20 J20 hq => ?_)))))
      obtain ⟨rfl, rfl, rfl, b1, b2, b3⟩ := hq
      refine iX11_law_23 (iX11_law_24 (iX11_law_27 s_X10_clear (hdd := by omega) (iX11_law_30 (iX11_law_31 (fun h31 => absurd h31 ((by decide : ¬ (0 : Int32) ≤ -1))) (fun h31 => ?_)))))
      refine iX11_law_34 (iX11_law_35 (iX11_law_42 ?_))
      refine ⟨rfl, rfl, (a1'.tr (b1.mono (by decide))).up (by decide), xu_eq, Or.inl ⟨d1, rfl, by rw [xu_row (by decide)]; exact b2, fun k t hk => ?_⟩⟩
      rw [xu_row (by decide), Nat.zero_add, b3 k (List.getElem?_eq_some_iff.mp hk).1]
      have := d4 k t hk
      rw [Nat.zero_add] at this
      exact this
    · refine iX11_law_7 (iX11_law_8 (iX11_law_9 (fun h9 => ?_) (fun h9 => by first | exact absurd (nI_pos' (by omega)) h9 | exact absurd h9 (nI_pos' (by omega)))))
      refine iX11_law_23 (iX11_law_24 (iX11_law_27 s_X10_clear (hdd := by omega) (iX11_law_30 (iX11_law_31 (fun h31 => ?_) (fun h31 => by first | exact absurd (nI_pos' (by omega)) h31 | exact absurd h31 (nI_pos' (by omega)))))))
      refine iX11_law_38 (iX11_law_40 (iX11_law_41 (iX11_law_42 ?_)))
      exact ⟨rfl, rfl, a1'.up (by decide), xu_eq, Or.inr ⟨d1, rfl, by rw [xu_rowf (by decide), a1 2 (by decide)], by rw [xu_rowf (by decide), a1 3 (by decide)]⟩⟩
  refine iX11_law_0 (iX11_law_1 (jX11_law_4 sp (hdd := by omega) (fun r4 g4 I4 J4 hq => ?_)))
  have hq2 := hq
  obtain ⟨rfl, rfl, -⟩ := hq
  exact fin _ _ hq2
end
/-! ===== a law: both take it ===== -/
theorem pp_law : PP_law Inv := by
  intro I J hI
  obtain ⟨hh, hb, hse, hin, hch, hta, hle, him, hcl, hsh, hlw⟩ := hI
  obtain ⟨u1, u2, u3, u4⟩ := id hta
  obtain ⟨n, hn, en⟩ := nI_of2 (x := I 17 2) (M := 120) (n := 120) (by decide) (Int32.not_lt.mpr u2) u3
  let c : Nat → Int32 := fun p => if p < n then I 18 p else -1
  let l : Nat → Int32 := fun p => if p < n then I 69 p else -1
  have bc : byT c n := fun p hp => if_neg (Nat.not_lt.mpr hp)
  have bl : byT l n := fun p hp => if_neg (Nat.not_lt.mpr hp)
  have c4 : ∀ q, q < n → I 18 q = c q := fun q hq => (if_pos hq).symm
  have l4 : ∀ q, q < n → I 69 q = l q := fun q hq => (if_pos hq).symm
  have nr : ∀ m : Nat, m < 256 → vp_nar .byte (nI m) = nI m ∨ (128 ≤ nI m ∧ vp_nar .byte (nI m) < 0) := by decide +kernel
  have rel : lRel c l := by
    intro p
    by_cases hp : p < n
    · obtain ⟨v1, v2, v3⟩ := u4 p (by omega)
      have v3 := v3 (by rw [en]; exact nI_lt hp (by omega))
      rw [← l4 p hp, ← c4 p hp, v3]
      obtain ⟨m, hm, em⟩ := nI_of2 (x := I 18 p) (M := 255) (n := 255) (by decide) (Int32.not_lt.mpr v1) v2
      rw [em]
      exact nr m (by omega)
    · rw [bc p (by omega), bl p (by omega)]
      exact Or.inl rfl
  have sc := s_X11_law (J := J) en hn bc c4
  have ok := pText_ok bc 100 0 [] (Nat.zero_le _) (Nat.le_refl _) (Nat.le_refl _) (Nat.le_refl _) (fun l hl => by cases hl)
  have sm : ∀ i : xI, i 57 = I 57 → i 69 = I 69 → Spec 1000 (1000000, 0, 0) M_X12_law [.ref 57] xG1 i J (mLawQ i J (pText c n 100 0 [])) := fun i h1 h2 => s_X12_law (J := J) bl (by rw [h1, u1, en]) hn bc rel (fun q hq => by rw [h2]; exact l4 q hq)
  generalize pText c n 100 0 [] = R at *
  obtain ⟨ok1, ok2⟩ := ok
  have tp : ∀ {i2 : xI}, i2 18 = I 18 → i2 17 2 = 0 → i2 57 17 = 0 → ivTape i2 := fun h1 h2 h3 => ⟨by rw [h2, h3], by rw [h2]; decide, by rw [h2]; decide, fun k hk => by
    rw [h1, h2]
    refine ⟨(u4 k hk).1, (u4 k hk).2.1, fun w => ?_⟩
    exact absurd w (Int32.not_lt.mpr (nI_pos' (by omega)))⟩
  have fr : ∀ {i i2 : xI}, xFr [2, 3, 17, 19] I i → (∀ b : Nat, b ∉ [57, 70, 71, 72, 73, 74] → i2 b = i b) → (∀ k : Nat, k ∉ [17, 18, 19, 20, 21, 29] → i2 57 k = i 57 k) → i 17 2 = 0 → i2 57 17 = 0 → ivLaw i2 → Inv i2 J := by
    intro i i2 f1 f2 f3 f4 f5 f6
    have r : ∀ b : Nat, b ∉ [2, 3, 17, 19, 57, 70, 71, 72, 73, 74] → i2 b = I b := fun b hb => by
      rw [f2 b (fun w => hb (by simp at w ⊢; omega)), f1 b (fun w => hb (by simp at w ⊢; omega))]
    have r57 : ∀ k : Nat, k ∉ [17, 18, 19, 20, 21, 29] → i2 57 k = I 57 k := fun k hk => by
      rw [f3 k hk, f1 57 (by decide)]
    refine ⟨?_, ?_, ?_, ?_, ?_, tp (r 18 (by decide)) (by rw [f2 17 (by decide)]; exact f4) f5, ?_, ?_, ?_, ?_, f6⟩
    · unfold ivHouse at hh ⊢
      rw [r57 1 (by decide), r57 6 (by decide), r 1 (by decide)]
      exact hh
    · unfold ivBills at hb ⊢
      rw [r 58 (by decide), r 59 (by decide), r 60 (by decide), r 61 (by decide), r 7 (by decide), r 8 (by decide), r 9 (by decide), r 10 (by decide)]
      exact hb
    · unfold ivSens at hse ⊢
      rw [r 62 (by decide), r 63 (by decide), r 11 (by decide), r 12 (by decide)]
      exact hse
    · unfold ivInf at hin ⊢
      rw [r 64 (by decide), r 13 (by decide), r 14 (by decide), r 15 (by decide), r 16 (by decide)]
      exact hin
    · exact ivChg_frame hch ⟨r 20 (by decide), r 21 (by decide), r 22 (by decide), r 23 (by decide), r 24 (by decide), r 65 (by decide), r 66 (by decide), r 67 (by decide), r 68 (by decide)⟩ (r57 10 (by decide)) (r57 11 (by decide)) (by rw [r 1 (by decide)]; exact Int32.le_refl _) (by rw [r 1 (by decide)]; exact Int32.le_refl _)
    · unfold ivLed at hle ⊢
      rw [r 82 (by decide), r 38 (by decide)]
      exact hle
    · unfold ivImg at him ⊢
      rw [r57 42 (by decide), r 37 (by decide), r 83 (by decide), r 40 (by decide), r 84 (by decide), r 39 (by decide)]
      exact him
    · unfold ivCl at hcl ⊢
      rw [r57 45 (by decide), r57 47 (by decide), r 41 (by decide), r 85 (by decide), r 42 (by decide), r 86 (by decide), r 43 (by decide)]
      exact hcl
    · exact ivSh_frame hsh (fun s hs => r _ (by simp; omega)) (r 87 (by decide)) (r 88 (by decide)) (by rw [r 41 (by decide)]; exact Int32.le_refl _) (fun _ _ => rfl) rfl
  refine ⟨if R.1 = true then 1 else -100 - nI R.2.1, fun i j => j = J ∧ cLawQ I J R (some (.int (if R.1 = true then 1 else -100 - nI R.2.1))) xG1 i J, ?_, ?_⟩
  · refine Spec.weaken (sc := none) sc (fun v g i j hv => ?_)
    have hv2 := hv
    obtain ⟨rfl, rfl, -, -, hd⟩ := hv
    have ev : v = some (.int (if R.1 = true then 1 else -100 - nI R.2.1)) := by
      rcases hd with ⟨d1, d2, -⟩ | ⟨d1, d2, -⟩
      · rw [if_pos d1]; exact d2
      · rw [if_neg (by rw [d1]; decide)]; exact d2
    exact ⟨ev, rfl, rfl, by rw [← ev]; exact hv2⟩
  · intro i j hij
    obtain ⟨rfl, -, -, f1, f2, f3⟩ := hij
    refine Spec.weaken (sc := none) (sm i (f1 57 (by decide)) (f1 69 (by decide))) (fun v g i2 j2 hv => ?_)
    obtain ⟨rfl, rfl, g1, g2, g3, g4⟩ := hv
    rcases g4 with ⟨d1, rfl, d3, d4, d5, d6⟩ | ⟨d1, rfl, d3, d4, d5, d6⟩
    · rw [if_pos d1]
      obtain ⟨ne, oks, len1, len2, len3⟩ := ok2 d1
      rcases f3 with ⟨-, -, e2, e3⟩ | ⟨w, -⟩
      · refine ⟨rfl, rfl, fr f1 g1 g2 f2 g3 (Or.inr ⟨R.2.2, ne, oks, by omega, by rw [g1 2 (by decide)]; exact e2, fun k t hk => ?_, d3, by omega, by omega, d5, fun k t hk => ?_, d6⟩)⟩
        · rw [g1 3 (by decide)]
          have := e3 k t hk
          rw [Nat.zero_add] at this
          exact this
        · have := d4 k t hk
          rw [Nat.zero_add] at this
          exact this
      · rw [d1] at w; cases w
    · rw [if_neg (by rw [d1]; decide)]
      rcases f3 with ⟨w, -⟩ | ⟨-, -, e2, e3⟩
      · rw [d1] at w; cases w
      · refine ⟨rfl, rfl, fr f1 g1 g2 f2 g3 ?_⟩
        have q2 : i2 2 = I 2 := (g1 2 (by decide)).trans e2
        have q3 : i2 3 = I 3 := (g1 3 (by decide)).trans e3
        have q29 : i2 57 29 = I 57 29 := by rw [d3, f1 57 (by decide)]
        have r7 : ∀ b : Nat, b ∈ [70, 71, 72, 73, 74] → i b = I b := fun b hb => f1 b (by simp at hb ⊢; omega)
        rcases hlw with ⟨w1, w2⟩ | ⟨ls, w1, w2, w3, w4, w5, w6, w7, w8, w9, w10, w11⟩
        · exact Or.inl ⟨by rw [q2]; exact w1, by rw [q29]; exact w2⟩
        · refine Or.inr ⟨ls, w1, w2, w3, by rw [q2]; exact w4, by rw [q3]; exact w5, by rw [q29]; exact w6, w7, w8, by rw [d5, r7 72 (by decide)]; exact w9, fun k t hk => ?_, fun j2 l2 hl => ?_⟩
          · have hk2 := (List.getElem?_eq_some_iff.mp hk).1
            rw [(d4 k (by omega)).1, (d4 k (by omega)).2, r7 70 (by decide), r7 71 (by decide)]
            exact w10 k t hk
          · have hk2 := (List.getElem?_eq_some_iff.mp hl).1
            rw [(d6 j2 (by omega)).1, (d6 j2 (by omega)).2, r7 73 (by decide), r7 74 (by decide)]
            exact w11 j2 l2 hl
