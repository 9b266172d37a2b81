/-! ===== pairs causes, cause ===== -/
theorem lgc_le {x y : Int64} : lg_cmp x y ≤ 0 ↔ ¬ y < x := by
  unfold lg_cmp
  grind
noncomputable def lkF (I : xI) (ls : lwT) (Bf : Nat → Int32) (L nB nS : Nat) (T : Bool) (v : Nat) : Nat := wt I ls Bf L nB nS (if T = true then nI v else I 13 0) (if T = true then I 14 0 else nI v) 8 0 (I 15 0) 1
theorem lkF_lt {I : xI} {ls : lwT} {Bf : Nat → Int32} {L nB nS : Nat} {T : Bool} {v : Nat} : lkF I ls Bf L nB nS T v ≤ 12 ^ 8 := by
  unfold lkF
  have := wt_le (I := I) (ls := ls) (Bf := Bf) (L := L) (nB := nB) (nS := nS) (t := if T = true then nI v else I 13 0) (w := if T = true then I 14 0 else nI v) 8 0 (I 15 0) 1
  omega
theorem lkF_fr {I I' : xI} (h : Fq I I') {ls : lwT} {Bf : Nat → Int32} {L nB nS : Nat} {T : Bool} : lkF I' ls Bf L nB nS T = lkF I ls Bf L nB nS T := by
  funext v
  unfold lkF
  rw [wt_fr h, h.1 13 (by decide) (by decide), h.1 14 (by decide) (by decide), h.1 15 (by decide) (by decide)]
section
variable {I0 : xI} {J : xJ} {nB nS k L : Nat} {ls : lwT} {Bf : Nat → Int32}
theorem c_weigh (h : Wd I0 nB nS ls) (hr : Rw I0 J k L Bf) (T : Bool) : ∀ (m v : Nat), v + m = 10 → ∀ (I : xI) (J1 : xJ) (x4 x5 : Option Value), xFr [4, 5] I0 I → xFJ [33] J J1 → (∀ u : Nat, u < v → J1 33 u = lN (lkF I0 ls Bf L nB nS T u)) → WP 14 (1000000, 0, 0) none M_X1_weigh (fun r g i j => r = none ∧ g = xG1 ∧ xFr [4, 5] I0 i ∧ xFJ [33] J j ∧ ∀ u : Nat, u < 10 → j 33 u = lN (lkF I0 ls Bf L nB nS T u)) 2 [some (.ref 32), some (.ref (45 + 2 * k)), some (.int (if T = true then 6 else 7)), some (.int (nI v)), x4, x5] [] xG1 I J1 := by
  intro m
  induction m with
  | zero =>
    intro v hv I J1 x4 x5 hI hJ hl
    obtain rfl : v = 10 := by omega
    refine iX1_weigh_2 (iX1_weigh_3 (iX1_weigh_5 (fun h5 => ?_) (fun h5 => by first | exact absurd (Int32.le_refl _) h5 | exact absurd h5 (Int32.le_refl _))))
    refine iX1_weigh_71 ?_
    exact ⟨rfl, rfl, hI, hJ, hl⟩
  | succ m ih =>
    intro v hv I J1 x4 x5 hI hJ hl
    have fI := Fq.of hI (by decide)
    have wI := h.fr fI
    have rI := hr.fr fI (Fj.of hJ (by decide))
    obtain ⟨hB, hS⟩ := wI.le
    have hsx := xSh_at hr.1
    have e6 : f_get I 0 6 = I0 13 0 := (f_get_its 6 (by omega) (by omega)).trans (by rw [fI.1 13 (by decide) (by decide)])
    have e7 : f_get I 0 7 = I0 14 0 := (f_get_its 7 (by omega) (by omega)).trans (by rw [fI.1 14 (by decide) (by decide)])
    have e15 : I 15 0 = I0 15 0 := by rw [fI.1 15 (by decide) (by decide)]
    have ei : nI v + (1) = nI (v + 1) := nI_1 _
    have f5 : ¬ (10 : Int32) ≤ nI v := nI_ge (b := 10) (a := v) (by omega) (by omega)
    have next : ∀ (I2 : xI) (x4 x5 : Option Value), xFr [4, 5] I I2 → WP 14 (1000000, 0, 0) none M_X1_weigh (fun r g i j => r = none ∧ g = xG1 ∧ xFr [4, 5] I0 i ∧ xFJ [33] J j ∧ ∀ u : Nat, u < 10 → j 33 u = lN (lkF I0 ls Bf L nB nS T u)) 2 [some (.ref 32), some (.ref (45 + 2 * k)), some (.int (if T = true then 6 else 7)), some (.int (nI (v + 1))), x4, x5] [] xG1 I2 (xu J1 33 v (lN (lkF I0 ls Bf L nB nS T v))) := fun I2 x4 x5 h2 => ih (v + 1) (by omega) I2 _ x4 x5 (hI.tr h2) (hJ.up (by decide)) (fun u hu => by
      by_cases q : u = v
      · subst q; exact xu_eq
      · rw [xu_col q]; exact hl u (by omega))
    cases T with
    | true =>
      have sp := s_X1_weight wI rI (nI v) (I0 14 0)
      have e : wt I ls Bf L nB nS (nI v) (I0 14 0) 8 0 (I 15 0) 1 = lkF I0 ls Bf L nB nS true v := by
        rw [wt_fr fI, e15]; rfl
      rw [e] at sp
      rw [if_pos rfl] at next ⊢
      refine iX1_weigh_2 (iX1_weigh_3 (iX1_weigh_5 (fun h5 => absurd h5 (f5)) (fun h5 => ?_)))
      refine iX1_weigh_8 (iX1_weigh_9 (iX1_weigh_11 (fun h11 => absurd h11 ((fun z => z rfl))) (fun h11 => ?_)))
      refine iX1_weigh_14 (iX1_weigh_15 (iX1_weigh_27 (iX1_weigh_29 (iX1_weigh_30 (iX1_weigh_32 (fun h32 => ?_) (fun h32 => by first | exact absurd ((by decide)) h32 | exact absurd h32 ((by decide))))))))
      refine iX1_weigh_39 (iX1_weigh_40 (iX1_weigh_43 (iX1_weigh_45 (s_X5_its 7 hB hS) ?_)))
      rw [e7]
      refine iX1_weigh_48 (iX1_weigh_50 (iX1_weigh_51 (iX1_weigh_54 (iX1_weigh_55 (iX1_weigh_56 (iX1_weigh_57 (iX1_weigh_59 (jX1_weigh_61 sp (fun r61 g61 I61 J61 hq => ?_)))))))))
      obtain ⟨rfl, rfl, hq3, rfl⟩ := hq
      refine iX1_weigh_64 (vp_in_nI (by omega) (by omega)) (iX1_weigh_65 (iX1_weigh_68 ?_))
      rw [ei, nI_clamp (by omega)]
      exact next _ _ _ hq3
    | false =>
      have sp := s_X1_weight wI rI (I0 13 0) (nI v)
      have e : wt I ls Bf L nB nS (I0 13 0) (nI v) 8 0 (I 15 0) 1 = lkF I0 ls Bf L nB nS false v := by
        rw [wt_fr fI, e15]; rfl
      rw [e] at sp
      rw [if_neg (by decide)] at next ⊢
      refine iX1_weigh_2 (iX1_weigh_3 (iX1_weigh_5 (fun h5 => absurd h5 (f5)) (fun h5 => ?_)))
      refine iX1_weigh_8 (iX1_weigh_9 (iX1_weigh_11 (fun h11 => ?_) (fun h11 => by first | exact absurd ((by decide)) h11 | exact absurd h11 ((by decide)))))
      refine iX1_weigh_18 (iX1_weigh_19 (iX1_weigh_22 (iX1_weigh_24 (s_X5_its 6 hB hS) ?_)))
      rw [e6]
      refine iX1_weigh_27 (iX1_weigh_29 (iX1_weigh_30 (iX1_weigh_32 (fun h32 => absurd h32 ((fun z => z rfl))) (fun h32 => ?_))))
      refine iX1_weigh_35 (iX1_weigh_36 (iX1_weigh_48 (iX1_weigh_50 (iX1_weigh_51 (iX1_weigh_54 (iX1_weigh_55 (iX1_weigh_56 (iX1_weigh_57 (iX1_weigh_59 (jX1_weigh_61 sp (fun r61 g61 I61 J61 hq => ?_)))))))))))
      obtain ⟨rfl, rfl, hq3, rfl⟩ := hq
      refine iX1_weigh_64 (vp_in_nI (by omega) (by omega)) (iX1_weigh_65 (iX1_weigh_68 ?_))
      rw [ei, nI_clamp (by omega)]
      exact next _ _ _ hq3
theorem s_X1_weigh (h : Wd I0 nB nS ls) (hr : Rw I0 J k L Bf) (T : Bool) : Spec 14 (1000000, 0, 0) M_X1_weigh [.ref 32, .ref (45 + 2 * k), .int (if T = true then 6 else 7)] xG1 I0 J (fun r g i j => r = none ∧ g = xG1 ∧ xFr [4, 5] I0 i ∧ xFJ [33] J j ∧ ∀ u : Nat, u < 10 → j 33 u = lN (lkF I0 ls Bf L nB nS T u)) := by
  refine spec_of (L := [some (.ref 32), some (.ref (45 + 2 * k)), some (.int (if T = true then 6 else 7)), none, none, none]) (by decide) (Nat.le_of_ble_eq_true rfl) rfl ?_
  refine iX1_weigh_0 (iX1_weigh_1 ?_)
  exact c_weigh h hr T 10 0 (by omega) I0 J _ _ xFr.rf xFJ.rf (fun u hu => absurd hu (by omega))
theorem m_weigh (h : Wd I0 nB nS ls) (hr : Rw I0 J k L Bf) (T : Bool) : ∀ (m v : Nat), v + m = 10 → ∀ (I : xI) (J1 : xJ), xFr [75, 76] I0 I → xFJ [81] J J1 → (∀ u : Nat, u < v → J1 81 u = lN (lkF I0 ls Bf L nB nS T u)) → WP 14 (1000000, 0, 0) none M_X12_layChances (fun r g i j => r = none ∧ g = xG1 ∧ xFr [75, 76] I0 i ∧ xFJ [81] J j ∧ ∀ u : Nat, u < 10 → j 81 u = lN (lkF I0 ls Bf L nB nS T u)) 2 [some (.ref 57), some (.int (nI k)), some (.int (if T = true then 1 else 0)), some (.int (nI v))] [] xG1 I J1 := by
  intro m
  induction m with
  | zero =>
    intro v hv I J1 hI hJ hl
    obtain rfl : v = 10 := by omega
    refine iX12_layChances_2 (iX12_layChances_3 (iX12_layChances_5 (fun h5 => ?_) (fun h5 => by first | exact absurd (Int32.le_refl _) h5 | exact absurd h5 (Int32.le_refl _))))
    refine iX12_layChances_53 ?_
    exact ⟨rfl, rfl, hI, hJ, hl⟩
  | succ m ih =>
    intro v hv I J1 hI hJ hl
    have fI := Fq.of hI (by decide)
    have wI := h.fr fI
    have rI := hr.fr fI (Fj.of hJ (by decide))
    obtain ⟨i0, i1, i2, -⟩ := wI.2.2.2.2.2.2.2.2.1
    have e6 : I 64 0 = I0 13 0 := i0.trans (by rw [fI.1 13 (by decide) (by decide)])
    have e7 : I 64 1 = I0 14 0 := i1.trans (by rw [fI.1 14 (by decide) (by decide)])
    have e15 : I 15 0 = I0 15 0 := by rw [fI.1 15 (by decide) (by decide)]
    have ei : nI v + (1) = nI (v + 1) := nI_1 _
    have f5 : ¬ (10 : Int32) ≤ nI v := nI_ge (b := 10) (a := v) (by omega) (by omega)
    have next : ∀ (I2 : xI), xFr [75, 76] I I2 → WP 14 (1000000, 0, 0) none M_X12_layChances (fun r g i j => r = none ∧ g = xG1 ∧ xFr [75, 76] I0 i ∧ xFJ [81] J j ∧ ∀ u : Nat, u < 10 → j 81 u = lN (lkF I0 ls Bf L nB nS T u)) 2 [some (.ref 57), some (.int (nI k)), some (.int (if T = true then 1 else 0)), some (.int (nI (v + 1)))] [] xG1 I2 (xu J1 81 v (lN (lkF I0 ls Bf L nB nS T v))) := fun I2 h2 => ih (v + 1) (by omega) I2 _ (hI.tr h2) (hJ.up (by decide)) (fun u hu => by
      by_cases q : u = v
      · subst q; exact xu_eq
      · rw [xu_col q]; exact hl u (by omega))
    cases T with
    | true =>
      have sp := s_X12_chanceBy wI rI (nI v) (I0 14 0)
      have e : wt I ls Bf L nB nS (nI v) (I0 14 0) 8 0 (I 15 0) 1 = lkF I0 ls Bf L nB nS true v := by
        rw [wt_fr fI, e15]; rfl
      rw [e] at sp
      rw [if_pos rfl] at next ⊢
      refine iX12_layChances_2 (iX12_layChances_3 (iX12_layChances_5 (fun h5 => absurd h5 (f5)) (fun h5 => ?_)))
      refine iX12_layChances_8 (iX12_layChances_9 (iX12_layChances_12 (iX12_layChances_13 (iX12_layChances_14 (iX12_layChances_15 (iX12_layChances_16 (fun h16 => absurd h16 ((by decide))) (fun h16 => ?_)))))))
      refine iX12_layChances_19 (iX12_layChances_20 (iX12_layChances_29 (iX12_layChances_30 (fun h30 => absurd h30 ((by decide))) (fun h30 => ?_))))
      refine iX12_layChances_33 (iX12_layChances_34 (iX12_layChances_37 (iX12_layChances_38 (vin 4 (by decide) (by decide) (by decide)) ?_)))
      rw [show I 64 (1 : Int32).toNatClampNeg = I0 14 0 from e7]
      refine iX12_layChances_39 (jX12_layChances_43 sp (fun r43 g43 I43 J43 hq => ?_))
      obtain ⟨rfl, rfl, hq3, rfl⟩ := hq
      refine iX12_layChances_46 (vp_in_nI (by omega) (by omega)) (iX12_layChances_47 (iX12_layChances_50 ?_))
      rw [ei, nI_clamp (by omega)]
      exact next _ hq3
    | false =>
      have sp := s_X12_chanceBy wI rI (I0 13 0) (nI v)
      have e : wt I ls Bf L nB nS (I0 13 0) (nI v) 8 0 (I 15 0) 1 = lkF I0 ls Bf L nB nS false v := by
        rw [wt_fr fI, e15]; rfl
      rw [e] at sp
      rw [if_neg (by decide)] at next ⊢
      refine iX12_layChances_2 (iX12_layChances_3 (iX12_layChances_5 (fun h5 => absurd h5 (f5)) (fun h5 => ?_)))
      refine iX12_layChances_8 (iX12_layChances_9 (iX12_layChances_12 (iX12_layChances_13 (iX12_layChances_14 (iX12_layChances_15 (iX12_layChances_16 (fun h16 => ?_) (fun h16 => by first | exact absurd (rfl) h16 | exact absurd h16 (rfl))))))))
      refine iX12_layChances_23 (iX12_layChances_24 (iX12_layChances_27 (iX12_layChances_28 (vin 4 (by decide) (by decide) (by decide)) ?_)))
      rw [show I 64 (0 : Int32).toNatClampNeg = I0 13 0 from e6]
      refine iX12_layChances_29 (iX12_layChances_30 (fun h30 => ?_) (fun h30 => by first | exact absurd (rfl) h30 | exact absurd h30 (rfl)))
      refine iX12_layChances_42 (jX12_layChances_43 sp (fun r43 g43 I43 J43 hq => ?_))
      obtain ⟨rfl, rfl, hq3, rfl⟩ := hq
      refine iX12_layChances_46 (vp_in_nI (by omega) (by omega)) (iX12_layChances_47 (iX12_layChances_50 ?_))
      rw [ei, nI_clamp (by omega)]
      exact next _ hq3
theorem s_X12_layChances (h : Wd I0 nB nS ls) (hr : Rw I0 J k L Bf) (T : Bool) : Spec 14 (1000000, 0, 0) M_X12_layChances [.ref 57, .int (nI k), .int (if T = true then 1 else 0)] xG1 I0 J (fun r g i j => r = none ∧ g = xG1 ∧ xFr [75, 76] I0 i ∧ xFJ [81] J j ∧ ∀ u : Nat, u < 10 → j 81 u = lN (lkF I0 ls Bf L nB nS T u)) := by
  refine spec_of (L := [some (.ref 57), some (.int (nI k)), some (.int (if T = true then 1 else 0)), none]) (by decide) (Nat.le_of_ble_eq_true rfl) rfl ?_
  refine iX12_layChances_0 (iX12_layChances_1 ?_)
  exact m_weigh h hr T 10 0 (by omega) I0 J xFr.rf xFJ.rf (fun u hu => absurd hu (by omega))
end
/-! what is possible, what is likeliest -/
def psb (lk : Nat → Nat) : Nat → Int32
  | 0 => 0
  | v + 1 => if 0 < lk v then psb lk v ||| ((1 : Int32) <<< (nI v &&& 31)) else psb lk v
def lik (lk : Nat → Nat) : Nat → Option Nat × Nat
  | 0 => (none, 0)
  | v + 1 => if (lik lk v).2 < lk v then (some v, lk v) else lik lk v
def sml (lk : Nat → Nat) : Nat → Nat
  | 0 => 0
  | v + 1 => sml lk v + lk v
theorem lik_ok {lk : Nat → Nat} : ∀ v : Nat, ((lik lk v).1 = none ∧ (lik lk v).2 = 0 ∧ sml lk v = 0) ∨ ∃ y, (lik lk v).1 = some y ∧ y < v ∧ (lik lk v).2 = lk y ∧ 0 < lk y ∧ lk y ≤ sml lk v
  | 0 => Or.inl ⟨rfl, rfl, rfl⟩
  | v + 1 => by
    by_cases q : (lik lk v).2 < lk v
    · simp only [lik, if_pos q, sml]
      exact Or.inr ⟨v, rfl, by omega, rfl, by omega, by omega⟩
    · simp only [lik, if_neg q, sml]
      rcases lik_ok (lk := lk) v with ⟨h1, h2, h3⟩ | ⟨y, h1, h2, h3, h4, h5⟩
      · exact Or.inl ⟨h1, h2, by omega⟩
      · exact Or.inr ⟨y, h1, by omega, h3, h4, by omega⟩
theorem sml_le {lk : Nat → Nat} {M : Nat} (h : ∀ v, lk v ≤ M) : ∀ v, sml lk v ≤ v * M
  | 0 => by simp [sml]
  | v + 1 => by
    have := sml_le h v
    have := h v
    simp only [sml]
    rw [Nat.succ_mul]
    omega
theorem lik_2 {lk : Nat → Nat} {M : Nat} (h : ∀ v, lk v ≤ M) (v : Nat) : (lik lk v).2 ≤ M := by
  rcases lik_ok (lk := lk) v with ⟨h1, h2, h3⟩ | ⟨y, h1, h2, h3, h4, h5⟩
  · omega
  · rw [h3]; exact h y
section
variable {I : xI} {J : xJ} {lk : Nat → Nat}
theorem s_X1_possible (hJ : ∀ u : Nat, u < 10 → J 33 u = lN (lk u)) (hlk : ∀ u, lk u ≤ 12 ^ 8) : SpecF 1 M_X1_possible [.ref 32] xG1 I J (some (.int (psb lk 10))) I J := by
  refine specF_of (L := [some (.ref 32), none, none]) (by decide) (Nat.le_of_ble_eq_true rfl) rfl ?_
  have key : ∀ m v : Nat, v + m = 10 → WP 1 (1000000, 0, 0) none M_X1_possible (fun r2 g2 I2 J2 => r2 = some (.int (psb lk 10)) ∧ g2 = xG1 ∧ I2 = I ∧ J2 = J) 4 [some (.ref 32), some (.int (psb lk v)), some (.int (nI v))] [] xG1 I J := by
    intro m
    induction m with
    | zero =>
      intro v hv
      obtain rfl : v = 10 := by omega
      refine iX1_possible_4 (iX1_possible_5 (iX1_possible_7 (fun h7 => ?_) (fun h7 => by first | exact absurd (Int32.le_refl _) h7 | exact absurd h7 (Int32.le_refl _))))
      refine iX1_possible_33 (iX1_possible_34 ?_)
      exact ⟨rfl, rfl, rfl, rfl⟩
    | succ m ih =>
      intro v hv
      have f5 : ¬ (10 : Int32) ≤ nI v := nI_ge (b := 10) (a := v) (by omega) (by omega)
      have ei : nI v + (1) = nI (v + 1) := nI_1 _
      have := hlk v
      have e16 : lg_cmp (lN (lk v)) 0 ≤ 0 ↔ ¬ 0 < lk v := lgc_le.trans (not_congr (pk_lLT (a := 0) (by decide) (by omega)))
      refine iX1_possible_4 (iX1_possible_5 (iX1_possible_7 (fun h7 => absurd h7 (f5)) (fun h7 => ?_)))
      refine iX1_possible_10 (iX1_possible_11 (iX1_possible_14 (iX1_possible_15 (vp_in_nI (by omega) (by omega)) ?_)))
      rw [nI_clamp (by omega), hJ v (by omega)]
      refine iX1_possible_16 (iX1_possible_17 (iX1_possible_18 (fun h18 => ?_) (fun h18 => ?_)))
      · refine iX1_possible_27 (iX1_possible_30 ?_)
        rw [e16] at h18
        rw [ei]
        have := ih (v + 1) (by omega)
        simp only [psb] at this
        first | (rw [if_neg h18] at this; exact this) | (rw [if_pos (Decidable.not_not.mp h18)] at this; exact this)
      · refine iX1_possible_21 (iX1_possible_22 (iX1_possible_23 (iX1_possible_24 (iX1_possible_25 (iX1_possible_26 (iX1_possible_27 (iX1_possible_30 ?_)))))))
        rw [e16] at h18
        rw [ei]
        have := ih (v + 1) (by omega)
        simp only [psb] at this
        first | (rw [if_neg h18] at this; exact this) | (rw [if_pos (Decidable.not_not.mp h18)] at this; exact this)
  exact iX1_possible_0 (iX1_possible_1 (iX1_possible_2 (iX1_possible_3 (key 10 0 (by omega)))))
theorem s_X1_likeliest (hJ : ∀ u : Nat, u < 10 → J 33 u = lN (lk u)) (hlk : ∀ u, lk u ≤ 12 ^ 8) : SpecF 1 M_X1_likeliest [.ref 32] xG1 I J (some (.int (oN (lik lk 10).1))) I J := by
  refine specF_of (L := [some (.ref 32), none, none, none, none]) (by decide) (Nat.le_of_ble_eq_true rfl) rfl ?_
  have key : ∀ m v : Nat, v + m = 10 → WP 1 (1000000, 0, 0) none M_X1_likeliest (fun r2 g2 I2 J2 => r2 = some (.int (oN (lik lk 10).1)) ∧ g2 = xG1 ∧ I2 = I ∧ J2 = J) 8 [some (.ref 32), some (.int (oN (lik lk v).1)), some (.long (lN (lik lk v).2)), none, some (.int (nI v))] [] xG1 I J := by
    intro m
    induction m with
    | zero =>
      intro v hv
      obtain rfl : v = 10 := by omega
      refine iX1_likeliest_8 (iX1_likeliest_10 (iX1_likeliest_12 (fun h12 => ?_) (fun h12 => by first | exact absurd (Int32.le_refl _) h12 | exact absurd h12 (Int32.le_refl _))))
      refine iX1_likeliest_44 (iX1_likeliest_45 ?_)
      exact ⟨rfl, rfl, rfl, rfl⟩
    | succ m ih =>
      intro v hv
      have f5 : ¬ (10 : Int32) ≤ nI v := nI_ge (b := 10) (a := v) (by omega) (by omega)
      have ei : nI v + (1) = nI (v + 1) := nI_1 _
      have h1 := hlk v
      have h2 := lik_2 hlk v
      have e24 : lg_cmp (lN (lk v)) (lN (lik lk v).2) ≤ 0 ↔ ¬ (lik lk v).2 < lk v := lgc_le.trans (not_congr (pk_lLT (by omega) (by omega)))
      by_cases q : (lik lk v).2 < lk v
      · have e : lik lk (v + 1) = (some v, lk v) := by simp only [lik, if_pos q]
        refine iX1_likeliest_8 (iX1_likeliest_10 (iX1_likeliest_12 (fun h12 => absurd h12 (f5)) (fun h12 => ?_)))
        refine iX1_likeliest_15 (iX1_likeliest_16 (iX1_likeliest_19 (iX1_likeliest_21 (vp_in_nI (by omega) (by omega)) ?_)))
        rw [nI_clamp (by omega), hJ v (by omega)]
        refine iX1_likeliest_22 (iX1_likeliest_23 (iX1_likeliest_24 (fun h24 => absurd h24 (fun z => (e24.mp z) q)) (fun h24 => ?_)))
        refine iX1_likeliest_27 (iX1_likeliest_28 (iX1_likeliest_31 (iX1_likeliest_33 (vp_in_nI (by omega) (by omega)) (iX1_likeliest_34 (iX1_likeliest_35 (iX1_likeliest_37 (iX1_likeliest_38 (iX1_likeliest_41 ?_))))))))
        rw [nI_clamp (by omega), hJ v (by omega), ei]
        have := ih (v + 1) (by omega)
        rw [e] at this
        exact this
      · have e : lik lk (v + 1) = lik lk v := by simp only [lik, if_neg q]
        refine iX1_likeliest_8 (iX1_likeliest_10 (iX1_likeliest_12 (fun h12 => absurd h12 (f5)) (fun h12 => ?_)))
        refine iX1_likeliest_15 (iX1_likeliest_16 (iX1_likeliest_19 (iX1_likeliest_21 (vp_in_nI (by omega) (by omega)) ?_)))
        rw [nI_clamp (by omega), hJ v (by omega)]
        refine iX1_likeliest_22 (iX1_likeliest_23 (iX1_likeliest_24 (fun h24 => ?_) (fun h24 => by first | exact absurd (e24.mpr q) h24 | exact absurd h24 (e24.mpr q))))
        refine iX1_likeliest_38 (iX1_likeliest_41 ?_)
        rw [ei]
        have := ih (v + 1) (by omega)
        rw [e] at this
        exact this
  exact iX1_likeliest_0 (iX1_likeliest_2 (iX1_likeliest_3 (iX1_likeliest_4 (iX1_likeliest_5 (iX1_likeliest_6 (key 10 0 (by omega)))))))
theorem s_X1_most (hJ : ∀ u : Nat, u < 10 → J 33 u = lN (lk u)) (hlk : ∀ u, lk u ≤ 12 ^ 8) : SpecF 2 M_X1_most [.ref 32] xG1 I J (some (.long (lN (lik lk 10).2))) I J := by
  refine specF_of (L := [some (.ref 32), none]) (by decide) (Nat.le_of_ble_eq_true rfl) rfl ?_
  rcases lik_ok (lk := lk) 10 with ⟨h1, h2, h3⟩ | ⟨y, h1, h2, h3, h4, h5⟩
  · refine iX1_most_0 (iX1_most_1 (s_X1_likeliest hJ hlk) ?_)
    rw [h1]
    refine iX1_most_4 (iX1_most_5 (iX1_most_6 (iX1_most_8 (fun h8 => absurd h8 (fun z => z rfl)) (fun h8 => ?_))))
    refine iX1_most_11 (iX1_most_12 (iX1_most_21 ?_))
    exact ⟨by rw [h2]; rfl, rfl, rfl, rfl⟩
  · have ny : ¬ nI y = -2 := by
      have := nI_pos' (n := y) (by omega)
      grind
    refine iX1_most_0 (iX1_most_1 (s_X1_likeliest hJ hlk) ?_)
    rw [h1]
    refine iX1_most_4 (iX1_most_5 (iX1_most_6 (iX1_most_8 (fun h8 => ?_) (fun h8 => by first | exact absurd (ny) h8 | exact absurd h8 (ny)))))
    refine iX1_most_15 (iX1_most_16 (iX1_most_19 (iX1_most_20 (vp_in_nI (n := y) (by omega) (by omega)) (iX1_most_21 ?_))))
    exact ⟨by rw [show (oN (some y)).toNatClampNeg = y from nI_clamp (by omega), hJ y (by omega), h3], rfl, rfl, rfl⟩
theorem s_X1_together (hJ : ∀ u : Nat, u < 10 → J 33 u = lN (lk u)) : SpecF 1 M_X1_together [.ref 32] xG1 I J (some (.long (lN (sml lk 10)))) I J := by
  refine specF_of (L := [some (.ref 32), none, none, none]) (by decide) (Nat.le_of_ble_eq_true rfl) rfl ?_
  have key : ∀ m v : Nat, v + m = 10 → WP 1 (1000000, 0, 0) none M_X1_together (fun r2 g2 I2 J2 => r2 = some (.long (lN (sml lk 10))) ∧ g2 = xG1 ∧ I2 = I ∧ J2 = J) 4 [some (.ref 32), some (.long (lN (sml lk v))), none, some (.int (nI v))] [] xG1 I J := by
    intro m
    induction m with
    | zero =>
      intro v hv
      obtain rfl : v = 10 := by omega
      refine iX1_together_4 (iX1_together_5 (iX1_together_7 (fun h7 => ?_) (fun h7 => by first | exact absurd (Int32.le_refl _) h7 | exact absurd h7 (Int32.le_refl _))))
      refine iX1_together_25 (iX1_together_26 ?_)
      exact ⟨rfl, rfl, rfl, rfl⟩
    | succ m ih =>
      intro v hv
      have f5 : ¬ (10 : Int32) ≤ nI v := nI_ge (b := 10) (a := v) (by omega) (by omega)
      have ei : nI v + (1) = nI (v + 1) := nI_1 _
      refine iX1_together_4 (iX1_together_5 (iX1_together_7 (fun h7 => absurd h7 (f5)) (fun h7 => ?_)))
      refine iX1_together_10 (iX1_together_11 (iX1_together_12 (iX1_together_15 (iX1_together_16 (vp_in_nI (by omega) (by omega)) (iX1_together_17 (iX1_together_18 (iX1_together_19 (iX1_together_22 ?_))))))))
      rw [nI_clamp (by omega), hJ v (by omega), lN_add, ei]
      exact ih (v + 1) (by omega)
  exact iX1_together_0 (iX1_together_1 (iX1_together_2 (iX1_together_3 (key 10 0 (by omega)))))
theorem s_X12_likeliest (hJ : ∀ u : Nat, u < 10 → J 81 u = lN (lk u)) (hlk : ∀ u, lk u ≤ 12 ^ 8) : SpecF 1 M_X12_likeliest [.ref 57] xG1 I J (some (.int (oN (lik lk 10).1))) I J := by
  refine specF_of (L := [some (.ref 57), none, none]) (by decide) (Nat.le_of_ble_eq_true rfl) rfl ?_
  have key : ∀ m v : Nat, v + m = 10 → WP 1 (1000000, 0, 0) none M_X12_likeliest (fun r2 g2 I2 J2 => r2 = some (.int (oN (lik lk 10).1)) ∧ g2 = xG1 ∧ I2 = I ∧ J2 = J) 5 [some (.ref 57), some (.int (oN (lik lk v).1)), some (.int (nI v))] [] xG1 I J := by
    intro m
    induction m with
    | zero =>
      intro v hv
      obtain rfl : v = 10 := by omega
      refine iX12_likeliest_5 (iX12_likeliest_6 (iX12_likeliest_8 (fun h8 => ?_) (fun h8 => by first | exact absurd (Int32.le_refl _) h8 | exact absurd h8 (Int32.le_refl _))))
      refine iX12_likeliest_50 (iX12_likeliest_51 ?_)
      exact ⟨rfl, rfl, rfl, rfl⟩
    | succ m ih =>
      intro v hv
      have f5 : ¬ (10 : Int32) ≤ nI v := nI_ge (b := 10) (a := v) (by omega) (by omega)
      have ei : nI v + (1) = nI (v + 1) := nI_1 _
      have h1 := hlk v
      have e16 : lg_cmp (lN (lk v)) 0 ≤ 0 ↔ ¬ 0 < lk v := lgc_le.trans (not_congr (pk_lLT (a := 0) (by decide) (by omega)))
      by_cases q0 : 0 < lk v
      · rcases lik_ok (lk := lk) v with ⟨r1, r2, r3⟩ | ⟨y, r1, r2, r3, r4, r5⟩
        · have e : lik lk (v + 1) = (some v, lk v) := by simp only [lik]; rw [if_pos (by omega)]
          rw [r1]
          refine iX12_likeliest_5 (iX12_likeliest_6 (iX12_likeliest_8 (fun h8 => absurd h8 (f5)) (fun h8 => ?_)))
          refine iX12_likeliest_11 (iX12_likeliest_12 (iX12_likeliest_15 (iX12_likeliest_16 (vp_in_nI (by omega) (by omega)) ?_)))
          rw [nI_clamp (by omega), hJ v (by omega)]
          refine iX12_likeliest_17 (iX12_likeliest_18 (iX12_likeliest_19 (fun h19 => absurd h19 (fun z => (e16.mp z) q0)) (fun h19 => ?_)))
          refine iX12_likeliest_22 (iX12_likeliest_23 (fun h23 => ?_) (fun h23 => by first | exact absurd ((by decide : oN none < 0)) h23 | exact absurd h23 ((by decide : oN none < 0))))
          refine iX12_likeliest_42 (iX12_likeliest_43 (iX12_likeliest_44 (iX12_likeliest_47 ?_)))
          rw [ei]
          have := ih (v + 1) (by omega)
          rw [e] at this
          exact this
        · have hy := hlk y
          have e38 : lg_cmp (lN (lk v)) (lN (lk y)) ≤ 0 ↔ ¬ lk y < lk v := lgc_le.trans (not_congr (pk_lLT (by omega) (by omega)))
          have f23 : ¬ oN (some y) < 0 := nI_pos (n := y) (by omega)
          rw [r1]
          by_cases q : lk y < lk v
          · have e : lik lk (v + 1) = (some v, lk v) := by simp only [lik]; rw [if_pos (by omega)]
            refine iX12_likeliest_5 (iX12_likeliest_6 (iX12_likeliest_8 (fun h8 => absurd h8 (f5)) (fun h8 => ?_)))
            refine iX12_likeliest_11 (iX12_likeliest_12 (iX12_likeliest_15 (iX12_likeliest_16 (vp_in_nI (by omega) (by omega)) ?_)))
            rw [nI_clamp (by omega), hJ v (by omega)]
            refine iX12_likeliest_17 (iX12_likeliest_18 (iX12_likeliest_19 (fun h19 => absurd h19 (fun z => (e16.mp z) q0)) (fun h19 => ?_)))
            refine iX12_likeliest_22 (iX12_likeliest_23 (fun h23 => absurd h23 (f23)) (fun h23 => ?_))
            refine iX12_likeliest_26 (iX12_likeliest_27 (iX12_likeliest_30 (iX12_likeliest_31 (vp_in_nI (by omega) (by omega)) ?_)))
            rw [nI_clamp (by omega), hJ v (by omega)]
            refine iX12_likeliest_32 (iX12_likeliest_33 (iX12_likeliest_36 (iX12_likeliest_37 (vp_in_nI (n := y) (by omega) (by omega)) ?_)))
            rw [show (oN (some y)).toNatClampNeg = y from nI_clamp (by omega), hJ y (by omega)]
            refine iX12_likeliest_38 (iX12_likeliest_39 (fun h39 => absurd h39 (fun z => (e38.mp z) q)) (fun h39 => ?_))
            refine iX12_likeliest_42 (iX12_likeliest_43 (iX12_likeliest_44 (iX12_likeliest_47 ?_)))
            rw [ei]
            have := ih (v + 1) (by omega)
            rw [e] at this
            exact this
          · have e : lik lk (v + 1) = lik lk v := by simp only [lik]; rw [if_neg (by omega)]
            refine iX12_likeliest_5 (iX12_likeliest_6 (iX12_likeliest_8 (fun h8 => absurd h8 (f5)) (fun h8 => ?_)))
            refine iX12_likeliest_11 (iX12_likeliest_12 (iX12_likeliest_15 (iX12_likeliest_16 (vp_in_nI (by omega) (by omega)) ?_)))
            rw [nI_clamp (by omega), hJ v (by omega)]
            refine iX12_likeliest_17 (iX12_likeliest_18 (iX12_likeliest_19 (fun h19 => absurd h19 (fun z => (e16.mp z) q0)) (fun h19 => ?_)))
            refine iX12_likeliest_22 (iX12_likeliest_23 (fun h23 => absurd h23 (f23)) (fun h23 => ?_))
            refine iX12_likeliest_26 (iX12_likeliest_27 (iX12_likeliest_30 (iX12_likeliest_31 (vp_in_nI (by omega) (by omega)) ?_)))
            rw [nI_clamp (by omega), hJ v (by omega)]
            refine iX12_likeliest_32 (iX12_likeliest_33 (iX12_likeliest_36 (iX12_likeliest_37 (vp_in_nI (n := y) (by omega) (by omega)) ?_)))
            rw [show (oN (some y)).toNatClampNeg = y from nI_clamp (by omega), hJ y (by omega)]
            refine iX12_likeliest_38 (iX12_likeliest_39 (fun h39 => ?_) (fun h39 => by first | exact absurd (e38.mpr q) h39 | exact absurd h39 (e38.mpr q)))
            refine iX12_likeliest_44 (iX12_likeliest_47 ?_)
            rw [ei]
            have := ih (v + 1) (by omega)
            rw [e, r1] at this
            exact this
      · have e : lik lk (v + 1) = lik lk v := by simp only [lik]; rw [if_neg (by omega)]
        refine iX12_likeliest_5 (iX12_likeliest_6 (iX12_likeliest_8 (fun h8 => absurd h8 (f5)) (fun h8 => ?_)))
        refine iX12_likeliest_11 (iX12_likeliest_12 (iX12_likeliest_15 (iX12_likeliest_16 (vp_in_nI (by omega) (by omega)) ?_)))
        rw [nI_clamp (by omega), hJ v (by omega)]
        refine iX12_likeliest_17 (iX12_likeliest_18 (iX12_likeliest_19 (fun h19 => ?_) (fun h19 => by first | exact absurd (e16.mpr q0) h19 | exact absurd h19 (e16.mpr q0))))
        refine iX12_likeliest_44 (iX12_likeliest_47 ?_)
        rw [ei]
        have := ih (v + 1) (by omega)
        rw [e] at this
        exact this
  exact iX12_likeliest_0 (iX12_likeliest_2 (iX12_likeliest_3 (iX12_likeliest_4 (key 10 0 (by omega)))))
end
theorem what4 {w : Int32} (h : ¬ f_in w 0 3 = 0) : w = 0 ∨ w = 1 ∨ w = 2 ∨ w = 3 := by
  have := f_in_p h
  obtain ⟨n, hn, rfl⟩ := nI_of2 (x := w) (M := 3) (n := 3) (by decide) (by grind) this.2
  have : n = 0 ∨ n = 1 ∨ n = 2 ∨ n = 3 := by omega
  rcases this with rfl | rfl | rfl | rfl
  · exact Or.inl rfl
  · exact Or.inr (Or.inl rfl)
  · exact Or.inr (Or.inr (Or.inl rfl))
  · exact Or.inr (Or.inr (Or.inr rfl))
theorem m_psb {I0 : xI} {J0 J : xJ} {w1 w2 : Int32} {lk : Nat → Nat} {I : xI} (hI : Fq I0 I) (hJ0 : Fj J0 J) (hJ : ∀ u : Nat, u < 10 → J 81 u = lN (lk u)) (hlk : ∀ u, lk u ≤ 12 ^ 8) : ∀ m v : Nat, v + m = 10 → WP 1000 (1000000, 0, 0) none M_X12_causes (fun r g i j => r = some (.int (psb lk 10)) ∧ g = xG1 ∧ Fq I0 i ∧ Fj J0 j) 64 [some (.ref 57), some (.int w1), some (.int w2), some (.int (psb lk v)), some (.int (nI v))] [] xG1 I J := by
  intro m
  induction m with
  | zero =>
    intro v hv
    obtain rfl : v = 10 := by omega
    refine iX12_causes_64 (iX12_causes_66 (iX12_causes_68 (fun h68 => ?_) (fun h68 => by first | exact absurd (Int32.le_refl _) h68 | exact absurd h68 (Int32.le_refl _))))
    refine iX12_causes_96 (iX12_causes_97 ?_)
    exact ⟨rfl, rfl, hI, hJ0⟩
  | succ m ih =>
    intro v hv
    have f5 : ¬ (10 : Int32) ≤ nI v := nI_ge (b := 10) (a := v) (by omega) (by omega)
    have ei : nI v + (1) = nI (v + 1) := nI_1 _
    have := hlk v
    have e16 : lg_cmp (lN (lk v)) 0 ≤ 0 ↔ ¬ 0 < lk v := lgc_le.trans (not_congr (pk_lLT (a := 0) (by decide) (by omega)))
    refine iX12_causes_64 (iX12_causes_66 (iX12_causes_68 (fun h68 => absurd h68 (f5)) (fun h68 => ?_)))
    refine iX12_causes_71 (iX12_causes_72 (iX12_causes_75 (iX12_causes_77 (vp_in_nI (by omega) (by omega)) ?_)))
    rw [nI_clamp (by omega), hJ v (by omega)]
    refine iX12_causes_78 (iX12_causes_79 (iX12_causes_80 (fun h80 => ?_) (fun h80 => ?_)))
    · refine iX12_causes_90 (iX12_causes_93 ?_)
      rw [e16] at h80
      rw [ei]
      have := ih (v + 1) (by omega)
      simp only [psb] at this
      first | (rw [if_neg h80] at this; exact this) | (rw [if_pos (Decidable.not_not.mp h80)] at this; exact this)
    · refine iX12_causes_83 (iX12_causes_84 (iX12_causes_85 (iX12_causes_87 (iX12_causes_88 (iX12_causes_89 (iX12_causes_90 (iX12_causes_93 ?_)))))))
      rw [e16] at h80
      rw [ei]
      have := ih (v + 1) (by omega)
      simp only [psb] at this
      first | (rw [if_neg h80] at this; exact this) | (rw [if_pos (Decidable.not_not.mp h80)] at this; exact this)
