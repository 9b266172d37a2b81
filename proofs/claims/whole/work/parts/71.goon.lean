/-! ===== the class's next order ===== -/
section
variable {I0 : xI} {J0 : xJ} {m : Nat} {B : Nat → Nat}
def rowF (m : Nat) (B : Nat → Nat) (I : xI) (f : Nat → Nat) : Prop := ∀ k : Nat, k < m → I 30 k = nI (B (f k))
def monB (m : Nat) (B : Nat → Nat) : Prop := (∀ a b : Nat, a < b → b < m → B a < B b) ∧ ∀ a : Nat, a < m → B a < 10
theorem monB.le (h : monB m B) {a b : Nat} (ha : a < m) (hb : b < m) : nI (B a) ≤ nI (B b) ↔ a ≤ b := by
  have h1 := h.2 a ha
  have h2 := h.2 b hb
  rw [nI_leI (by omega) (by omega)]
  constructor
  · intro q
    by_cases z : a ≤ b
    · exact z
    · have := h.1 b a (by omega) ha
      omega
  · intro q
    by_cases z : a = b
    · subst z; exact Nat.le_refl _
    · have := h.1 a b (by omega) hb
      omega
theorem s_X8_swap {I : xI} {i j : Nat} (hi : i < 5) (hj : j < 5) : SpecF 0 M_X8_swap [.ref 29, .int (nI i), .int (nI j)] xG1 I J0 none (xu (xu I 30 i (I 30 j)) 30 j (I 30 i)) J0 := by
  refine specF_of (L := [some (.ref 29), some (.int (nI i)), some (.int (nI j)), none]) (by decide) (Nat.le_of_ble_eq_true rfl) rfl ?_
  refine iX8_swap_0 (iX8_swap_1 (iX8_swap_4 (iX8_swap_5 (vp_in_nI hi (by omega)) (iX8_swap_6 (iX8_swap_7 (iX8_swap_8 (iX8_swap_11 (iX8_swap_12 (iX8_swap_13 (iX8_swap_16 (iX8_swap_17 (vp_in_nI hj (by omega)) (iX8_swap_18 (vp_in_nI hi (by omega)) (iX8_swap_19 (iX8_swap_20 (iX8_swap_23 (iX8_swap_24 (iX8_swap_25 (vp_in_nI hj (by omega)) (iX8_swap_26 ?_))))))))))))))))))
  exact ⟨rfl, rfl, by rw [nI_clamp (by omega), nI_clamp (by omega)], rfl⟩
theorem rowF_sw {I : xI} {f : Nat → Nat} (h : rowF m B I f) {i j : Nat} (hi : i < m) (hj : j < m) : rowF m B (xu (xu I 30 i (I 30 j)) 30 j (I 30 i)) (sw f i j) := by
  intro k hk
  unfold sw
  by_cases q : k = j
  · subst q
    rw [xu_eq, if_pos rfl]
    exact h i hi
  · rw [xu_col q, if_neg q]
    by_cases q2 : k = i
    · subst q2
      rw [xu_eq, if_pos rfl]
      exact h j hj
    · rw [xu_col q2, if_neg q2]
      exact h k hk
theorem fi_le (f : Nat → Nat) : ∀ r, fi f r ≤ r
  | 0 => Nat.le_refl _
  | r + 1 => by
    simp only [fi]
    split
    · exact Nat.le_succ_of_le (fi_le f r)
    · exact Nat.le_refl _
theorem fj_le (f : Nat → Nat) (i : Nat) : ∀ j, fj f i j ≤ j
  | 0 => Nat.le_refl _
  | j + 1 => by
    simp only [fj]
    split
    · exact Nat.le_succ_of_le (fj_le f i j)
    · exact Nat.le_refl _
theorem sub_m1 (x : Int32) : x + (-1) = x - 1 := by rw [Int32.sub_eq_add_neg]
abbrev goQ (I0 : xI) (J0 : xJ) (m : Nat) (B : Nat → Nat) (o : Option (Nat → Nat)) : xP := fun r g i j => g = xG1 ∧ j = J0 ∧ match o with
  | none => r = some (.int 0) ∧ i = I0
  | some f => r = some (.int 1) ∧ xFr [30] I0 i ∧ rowF m B i f
theorem go_rv (hm : m ≤ 5) {R : Nat → Nat} {i1 i2 : Int32} : ∀ (n : Nat) (f : Nat → Nat) (l r : Nat), rv n f l r = R → r - l ≤ n → r < m → l ≤ m → ∀ (I : xI), xFr [30] I0 I → rowF m B I f → WP 5 (1000000, 0, 0) none M_X8_goOn (goQ I0 J0 m B (some R)) 91 [some (.ref 29), some (.int i1), some (.int i2), some (.int (nI l)), some (.int (nI r))] [] xG1 I J0 := by
  intro n
  induction n with
  | zero =>
    intro f l r hR hn hr hl I hI hF
    simp only [rv] at hR
    subst hR
    refine iX8_goOn_91 (iX8_goOn_92 (iX8_goOn_94 (fun h94 => ?_) (fun h94 => by first | exact absurd (nI_le (a := r) (b := l) (by omega) (by omega)) h94 | exact absurd h94 (nI_le (a := r) (b := l) (by omega) (by omega)))))
    refine iX8_goOn_113 (iX8_goOn_114 ?_)
    exact ⟨rfl, rfl, rfl, hI, hF⟩
  | succ n ih =>
    intro f l r hR hn hr hl I hI hF
    simp only [rv] at hR
    by_cases q : l < r
    · rw [if_pos q] at hR
      have e1 : nI l + (1) = nI (l + 1) := nI_1 _
      have e2 : nI r + (-1) = nI (r - 1) := by
        have := pk_m1 (r - 1)
        rw [Nat.sub_add_cancel (by omega)] at this
        exact this
      refine iX8_goOn_91 (iX8_goOn_92 (iX8_goOn_94 (fun h94 => absurd h94 (nI_ge q (by omega))) (fun h94 => ?_)))
      refine iX8_goOn_97 (iX8_goOn_98 (iX8_goOn_99 (iX8_goOn_102 (iX8_goOn_104 (iX8_goOn_107 (s_X8_swap (i := l) (j := r) (by omega) (by omega)) (iX8_goOn_110 ?_))))))
      rw [e1, e2]
      exact ih (sw f l r) (l + 1) (r - 1) hR (by omega) (by omega) (by omega) _ ((hI.up (by decide)).up (by decide)) (rowF_sw hF (by omega) hr)
    · rw [if_neg q] at hR
      subst hR
      refine iX8_goOn_91 (iX8_goOn_92 (iX8_goOn_94 (fun h94 => ?_) (fun h94 => by first | exact absurd (nI_le (a := r) (b := l) (by omega) (by omega)) h94 | exact absurd h94 (nI_le (a := r) (b := l) (by omega) (by omega)))))
      refine iX8_goOn_113 (iX8_goOn_114 ?_)
      exact ⟨rfl, rfl, rfl, hI, hF⟩
theorem go_fj (hm : m ≤ 5) (h4 : I0 29 4 = nI m) (hB : monB m B) {f : Nat → Nat} (hf : ∀ k, k < m → f k < m) (hF : rowF m B I0 f) {i : Nat} (hi : i + 1 < m) {x3 x4 : Option Value} : ∀ (j J : Nat), fj f i j = J → j < m → WP 5 (1000000, 0, 0) none M_X8_goOn (goQ I0 J0 m B (some (rv m (sw f i J) (i + 1) (m - 1)))) 47 [some (.ref 29), some (.int (nI i)), some (.int (nI j)), x3, x4] [] xG1 I0 J0 := by
  intro j
  induction j with
  | zero =>
    intro J hJ hj
    simp only [fj] at hJ
    subst hJ
    have e1 : nI i + 1 = nI (i + 1) := nI_1 _
    have em : nI m - 1 = nI (m - 1) := by
      have := nI_pred (m - 1)
      rw [Nat.sub_add_cancel (by omega)] at this
      exact this
    refine iX8_goOn_47 (iX8_goOn_48 (iX8_goOn_49 (fun h49 => ?_) (fun h49 => by first | exact absurd (nI_le (a := 0) (b := i) (by omega) (by omega)) h49 | exact absurd h49 (nI_le (a := 0) (b := i) (by omega) (by omega)))))
    refine iX8_goOn_73 (iX8_goOn_74 (iX8_goOn_75 (iX8_goOn_76 (s_X8_swap (i := i) (j := 0) (by omega) (by omega)) (iX8_goOn_79 (iX8_goOn_80 (iX8_goOn_81 ?_))))))
    rw [e1]
    refine iX8_goOn_82 (iX8_goOn_83 (iX8_goOn_84 ?_))
    rw [xu_row (by decide), xu_row (by decide), h4]
    refine iX8_goOn_87 (iX8_goOn_88 ?_)
    rw [em]
    refine iX8_goOn_89 ?_
    exact go_rv hm m (sw f i 0) (i + 1) (m - 1) rfl (by omega) (by omega) (by omega) _ ((xFr.rf.up (by decide)).up (by decide)) (rowF_sw hF (by omega) (by omega))
  | succ j ih =>
    intro J hJ hj
    simp only [fj] at hJ
    have e1 : nI i + 1 = nI (i + 1) := nI_1 _
    have ej : nI (j + 1) + (-1) = nI j := pk_m1 _
    have em : nI m - 1 = nI (m - 1) := by
      have := nI_pred (m - 1)
      rw [Nat.sub_add_cancel (by omega)] at this
      exact this
    have out : J = j + 1 → WP 5 (1000000, 0, 0) none M_X8_goOn (goQ I0 J0 m B (some (rv m (sw f i J) (i + 1) (m - 1)))) 73 [some (.ref 29), some (.int (nI i)), some (.int (nI (j + 1))), x3, x4] [] xG1 I0 J0 := fun e => by
      subst e
      refine iX8_goOn_73 (iX8_goOn_74 (iX8_goOn_75 (iX8_goOn_76 (s_X8_swap (i := i) (j := j + 1) (by omega) (by omega)) (iX8_goOn_79 (iX8_goOn_80 (iX8_goOn_81 ?_))))))
      rw [e1]
      refine iX8_goOn_82 (iX8_goOn_83 (iX8_goOn_84 ?_))
      rw [xu_row (by decide), xu_row (by decide), h4]
      refine iX8_goOn_87 (iX8_goOn_88 ?_)
      rw [em]
      refine iX8_goOn_89 ?_
      exact go_rv hm m (sw f i (j + 1)) (i + 1) (m - 1) rfl (by omega) (by omega) (by omega) _ ((xFr.rf.up (by decide)).up (by decide)) (rowF_sw hF (by omega) (by omega))
    by_cases q : i < j + 1 ∧ f (j + 1) < f i
    · rw [if_pos q] at hJ
      have q64 : ¬ nI (B (f i)) ≤ nI (B (f (j + 1))) := fun z => by have := (hB.le (hf i (by omega)) (hf (j + 1) hj)).mp z; omega
      refine iX8_goOn_47 (iX8_goOn_48 (iX8_goOn_49 (fun h49 => absurd h49 (nI_ge q.1 (by omega))) (fun h49 => ?_)))
      refine iX8_goOn_52 (iX8_goOn_53 (iX8_goOn_56 (iX8_goOn_57 (vp_in_nI (by omega) (by omega)) (iX8_goOn_58 (iX8_goOn_59 (iX8_goOn_62 (iX8_goOn_63 (vp_in_nI (by omega) (by omega)) ?_)))))))
      rw [nI_clamp (by omega), nI_clamp (by omega), hF (j + 1) hj, hF i (by omega)]
      refine iX8_goOn_64 (fun h64 => absurd h64 (q64)) (fun h64 => ?_)
      refine iX8_goOn_67 (iX8_goOn_70 ?_)
      rw [ej]
      exact ih J hJ (by omega)
    · rw [if_neg q] at hJ
      by_cases q1 : i < j + 1
      · have q64 : nI (B (f i)) ≤ nI (B (f (j + 1))) := (hB.le (hf i (by omega)) (hf (j + 1) hj)).mpr (by omega)
        refine iX8_goOn_47 (iX8_goOn_48 (iX8_goOn_49 (fun h49 => absurd h49 (nI_ge q1 (by omega))) (fun h49 => ?_)))
        refine iX8_goOn_52 (iX8_goOn_53 (iX8_goOn_56 (iX8_goOn_57 (vp_in_nI (by omega) (by omega)) (iX8_goOn_58 (iX8_goOn_59 (iX8_goOn_62 (iX8_goOn_63 (vp_in_nI (by omega) (by omega)) ?_)))))))
        rw [nI_clamp (by omega), nI_clamp (by omega), hF (j + 1) hj, hF i (by omega)]
        refine iX8_goOn_64 (fun h64 => ?_) (fun h64 => by first | exact absurd (q64) h64 | exact absurd h64 (q64))
        exact out hJ.symm
      · refine iX8_goOn_47 (iX8_goOn_48 (iX8_goOn_49 (fun h49 => ?_) (fun h49 => by first | exact absurd (nI_le (a := j + 1) (b := i) (by omega) (by omega)) h49 | exact absurd h49 (nI_le (a := j + 1) (b := i) (by omega) (by omega)))))
        exact out hJ.symm
theorem go_fi (hm : m ≤ 5) (h4 : I0 29 4 = nI m) (hB : monB m B) {f : Nat → Nat} (hf : ∀ k, k < m → f k < m) (hF : rowF m B I0 f) : ∀ (r R : Nat), fi f r = R → r < m → WP 5 (1000000, 0, 0) none M_X8_goOn (goQ I0 J0 m B (if R = 0 then none else some (rv m (sw f (R - 1) (fj f (R - 1) (m - 1))) R (m - 1)))) 7 [some (.ref 29), some (.int (nI r - 1)), none, none, none] [] xG1 I0 J0 := by
  intro r
  induction r with
  | zero =>
    intro R hR hr
    simp only [fi] at hR
    subst hR
    refine iX8_goOn_7 (iX8_goOn_8 (fun h8 => ?_) (fun h8 => by first | exact absurd ((by decide : nI 0 - 1 < 0)) h8 | exact absurd h8 ((by decide : nI 0 - 1 < 0))))
    refine iX8_goOn_34 (iX8_goOn_35 (fun h35 => absurd h35 ((by decide : ¬ 0 ≤ nI 0 - 1))) (fun h35 => ?_))
    refine iX8_goOn_38 (iX8_goOn_39 ?_)
    exact ⟨rfl, rfl, rfl, rfl⟩
  | succ r ih =>
    intro R hR hr
    simp only [fi] at hR
    have er : nI (r + 1) - 1 = nI r := nI_pred _
    have e1 : nI r + 1 = nI (r + 1) := nI_1 _
    have em : nI m - 1 = nI (m - 1) := by
      have := nI_pred (m - 1)
      rw [Nat.sub_add_cancel (by omega)] at this
      exact this
    rw [er]
    by_cases q : f (r + 1) < f r
    · rw [if_pos q] at hR
      have q25 : ¬ nI (B (f r)) ≤ nI (B (f (r + 1))) := fun z => by have := (hB.le (hf r (by omega)) (hf (r + 1) hr)).mp z; omega
      refine iX8_goOn_7 (iX8_goOn_8 (fun h8 => absurd h8 (nI_pos (by omega))) (fun h8 => ?_))
      refine iX8_goOn_11 (iX8_goOn_12 (iX8_goOn_15 (iX8_goOn_16 (vp_in_nI (by omega) (by omega)) (iX8_goOn_17 (iX8_goOn_18 (iX8_goOn_21 (iX8_goOn_22 (iX8_goOn_23 ?_))))))))
      rw [e1]
      refine iX8_goOn_24 (vp_in_nI (by omega) (by omega)) ?_
      rw [nI_clamp (by omega), nI_clamp (by omega), hF (r + 1) hr, hF r (by omega)]
      refine iX8_goOn_25 (fun h25 => absurd h25 (q25)) (fun h25 => ?_)
      refine iX8_goOn_28 (iX8_goOn_31 ?_)
      rw [sub_m1]
      exact ih R hR (by omega)
    · rw [if_neg q] at hR
      subst hR
      have q25 : nI (B (f r)) ≤ nI (B (f (r + 1))) := (hB.le (hf r (by omega)) (hf (r + 1) hr)).mpr (by omega)
      rw [if_neg (by omega), Nat.add_sub_cancel]
      refine iX8_goOn_7 (iX8_goOn_8 (fun h8 => absurd h8 (nI_pos (by omega))) (fun h8 => ?_))
      refine iX8_goOn_11 (iX8_goOn_12 (iX8_goOn_15 (iX8_goOn_16 (vp_in_nI (by omega) (by omega)) (iX8_goOn_17 (iX8_goOn_18 (iX8_goOn_21 (iX8_goOn_22 (iX8_goOn_23 ?_))))))))
      rw [e1]
      refine iX8_goOn_24 (vp_in_nI (by omega) (by omega)) ?_
      rw [nI_clamp (by omega), nI_clamp (by omega), hF (r + 1) hr, hF r (by omega)]
      refine iX8_goOn_25 (fun h25 => ?_) (fun h25 => by first | exact absurd (q25) h25 | exact absurd h25 (q25))
      refine iX8_goOn_34 (iX8_goOn_35 (fun h35 => ?_) (fun h35 => by first | exact absurd (nI_pos' (by omega)) h35 | exact absurd h35 (nI_pos' (by omega))))
      refine iX8_goOn_40 (iX8_goOn_41 ?_)
      rw [h4]
      refine iX8_goOn_44 (iX8_goOn_45 ?_)
      rw [em]
      refine iX8_goOn_46 ?_
      exact go_fj hm h4 hB hf hF hr (m - 1) _ rfl (by omega)
def goR (I0 : xI) (J0 : xJ) (m : Nat) (B : Nat → Nat) (o : Option (List Nat)) : xP := fun r g i j => g = xG1 ∧ j = J0 ∧ match o with
  | none => r = some (.int 0) ∧ i = I0
  | some l => r = some (.int 1) ∧ xFr [30] I0 i ∧ rowF m B i (gL l)
theorem s_X8_goOn (hm : m ≤ 5) (h4 : I0 29 4 = nI m) (hB : monB m B) {l : List Nat} (hf : ∀ k, k < m → gL l k < m) (hF : rowF m B I0 (gL l)) : Spec 5 (1000000, 0, 0) M_X8_goOn [.ref 29] xG1 I0 J0 (goR I0 J0 m B (nxt m l)) := by
  refine spec_of (L := [some (.ref 29), none, none, none, none]) (by decide) (Nat.le_of_ble_eq_true rfl) rfl ?_
  by_cases h0 : m = 0
  · subst h0
    have e : nxt 0 l = none := by simp [nxt, fi]
    rw [e]
    refine iX8_goOn_0 (iX8_goOn_1 ?_)
    rw [h4]
    refine iX8_goOn_4 (iX8_goOn_5 (iX8_goOn_6 (iX8_goOn_7 (iX8_goOn_8 (fun h8 => ?_) (fun h8 => by first | exact absurd ((by decide : nI 0 - 2 < 0)) h8 | exact absurd h8 ((by decide : nI 0 - 2 < 0)))))))
    refine iX8_goOn_34 (iX8_goOn_35 (fun h35 => absurd h35 ((by decide : ¬ 0 ≤ nI 0 - 2))) (fun h35 => ?_))
    refine iX8_goOn_38 (iX8_goOn_39 ?_)
    exact ⟨rfl, rfl, rfl, rfl⟩
  · have e2 : nI m - 2 = nI (m - 1) - 1 := by
      have : ∀ m : Nat, m < 6 → m ≠ 0 → nI m - 2 = nI (m - 1) - 1 := by decide +kernel
      exact this m (by omega) h0
    have key := go_fi (J0 := J0) hm h4 hB hf hF (m - 1) _ rfl (by omega)
    refine iX8_goOn_0 (iX8_goOn_1 ?_)
    rw [h4]
    refine iX8_goOn_4 (iX8_goOn_5 ?_)
    rw [e2]
    refine iX8_goOn_6 ?_
    refine WP_Q key (fun r g i j hp => ?_)
    obtain ⟨p1, p2, p3⟩ := hp
    refine ⟨p1, p2, ?_⟩
    unfold nxt
    by_cases q : fi (gL l) (m - 1) = 0
    · rw [if_pos q] at p3 ⊢
      exact p3
    · rw [if_neg q] at p3 ⊢
      obtain ⟨p4, p5, p6⟩ := p3
      refine ⟨p4, p5, fun k hk => ?_⟩
      rw [p6 k hk]
      refine congrArg (fun z => nI (B z)) ?_
      unfold gL
      rw [List.getD, List.getElem?_map, List.getElem?_range hk]
      rfl
end
