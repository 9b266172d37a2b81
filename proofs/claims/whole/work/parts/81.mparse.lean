/-! ===== the reference parses ===== -/
def lRel (c l : Nat → Int32) : Prop := ∀ p, l p = c p ∨ (128 ≤ c p ∧ l p < 0)
theorem lRel.eq {c l : Nat → Int32} (h : lRel c l) (p : Nat) {k : Int32} (h0 : 0 ≤ k) (h1 : k < 128) : l p = k ↔ c p = k := by
  rcases h p with e | ⟨e1, e2⟩
  · rw [e]
  · constructor
    · intro z; rw [z] at e2; grind
    · intro z; rw [z] at e1; grind
theorem nameI_out {x : Int32} (h : x < 0 ∨ 128 ≤ x) : nameI x = -1 := by
  have h1 : ¬ x = 102 := fun z => by rw [z] at h; revert h; decide
  have h2 : ¬ x = 116 := fun z => by rw [z] at h; revert h; decide
  have h3 : ¬ x = 119 := fun z => by rw [z] at h; revert h; decide
  have h4 : ¬ x = 114 := fun z => by rw [z] at h; revert h; decide
  have h5 : ¬ x = 115 := fun z => by rw [z] at h; revert h; decide
  have h6 : ¬ x = 109 := fun z => by rw [z] at h; revert h; decide
  unfold nameI
  rw [if_neg h1, if_neg h2, if_neg h3, if_neg h4, if_neg h5, if_neg h6]
theorem lRel.name {c l : Nat → Int32} (h : lRel c l) (p : Nat) : nameI (l p) = nameI (c p) := by
  rcases h p with e | ⟨e1, e2⟩
  · rw [e]
  · rw [nameI_out (Or.inl e2), nameI_out (Or.inr e1)]
theorem lRel.dig {c l : Nat → Int32} (h : lRel c l) (p : Nat) : f_in (l p) 48 57 = f_in (c p) 48 57 := by
  rcases h p with e | ⟨e1, e2⟩
  · rw [e]
  · unfold f_in
    grind
theorem lRel.dg {c l : Nat → Int32} (h : lRel c l) (p : Nat) (q : dg (c p)) : l p = c p := by
  rcases h p with e | ⟨e1, e2⟩
  · exact e
  · exact absurd (Int32.le_trans e1 q.2) (by decide)
def TpM (c l : Nat → Int32) (n : Nat) (I : xI) (p z o : Nat) : Prop := I 57 17 = nI n ∧ n ≤ 120 ∧ byT c n ∧ lRel c l ∧ (∀ q, q < n → I 69 q = l q) ∧ I 57 18 = nI p ∧ p ≤ n ∧ I 57 19 = -1 ∧ I 57 20 = nI o ∧ I 57 21 = nI z
/-- what parsing leaves -/
def mF (I i : xI) (z : Nat) : Prop := (∀ a : Nat, a ∉ [57, 70, 71] → i a = I a) ∧ (∀ k : Nat, k ∉ [18, 19, 20, 21] → i 57 k = I 57 k) ∧ ∀ k, k < 130 + z → i 70 k = I 70 k ∧ i 71 k = I 71 k
theorem mF.rf {I : xI} {z : Nat} : mF I I z := ⟨fun _ _ => rfl, fun _ _ => rfl, fun _ _ => ⟨rfl, rfl⟩⟩
theorem mF.tr {I i1 i2 : xI} {z z1 : Nat} (h : mF I i1 z) (h2 : mF i1 i2 z1) (hz : z ≤ z1) : mF I i2 z := ⟨fun a ha => (h2.1 a ha).trans (h.1 a ha), fun k hk => (h2.2.1 k hk).trans (h.2.1 k hk), fun k hk => ⟨(h2.2.2 k (by omega)).1.trans (h.2.2 k hk).1, (h2.2.2 k (by omega)).2.trans (h.2.2 k hk).2⟩⟩
theorem mF.up57 {I i : xI} {z k : Nat} {v : Int32} (h : mF I i z) (hk : k ∈ [18, 19, 20, 21]) : mF I (xu i 57 k v) z := ⟨fun a ha => by
  rw [xu_rowf (fun q => ha (by rw [q]; decide))]
  exact h.1 a ha, fun k' hk' => by
  rw [xu_col (fun q => hk' (by rw [q]; exact hk))]
  exact h.2.1 k' hk', fun k' hk' => by
  rw [xu_row (by decide), xu_row (by decide)]
  exact h.2.2 k' hk'⟩
def stM (i : xI) (a : Nat) (ts : List Int32) : Prop := ∀ (k : Nat) (t : Int32), ts[k]? = some t → i 70 (a + k) = mAct t ∧ i 71 (a + k) = mWith t
theorem stM.app {i : xI} {a : Nat} {A B : List Int32} (h : stM i a A) (h2 : stM i (a + A.length) B) : stM i a (A ++ B) := by
  intro k t hk
  by_cases q : k < A.length
  · rw [List.getElem?_append_left q] at hk; exact h k t hk
  · rw [List.getElem?_append_right (by omega)] at hk
    have := h2 _ t hk
    rw [show a + A.length + (k - A.length) = a + k by omega] at this
    exact this
theorem stM.fr {i i' : xI} {a : Nat} {A : List Int32} (h : stM i a A) (he : ∀ k, k < a + A.length → i' 70 k = i 70 k ∧ i' 71 k = i 71 k) : stM i' a A := fun k t hk => by
  have hl := (List.getElem?_eq_some_iff.mp hk).1
  have := he (a + k) (by omega)
  rw [this.1, this.2]
  exact h k t hk
theorem stM.one {i : xI} {a : Nat} {t : Int32} (h : i 70 a = mAct t) (h2 : i 71 a = mWith t) : stM i a [t] := fun k t' hk => by
  match k, hk with
  | 0, hk => cases hk; exact ⟨h, h2⟩
def mR (I0 : xI) (J : xJ) (z p o : Nat) (r : pR) : xP := fun v g i j => v = none ∧ g = xG1 ∧ j = J ∧ mF I0 i z ∧ i 57 18 = nI r.2.1 ∧ ((r.1 = true ∧ i 57 19 = -1 ∧ i 57 20 = nI o ∧ i 57 21 = nI (z + r.2.2.length) ∧ stM i (130 + z) r.2.2) ∨ (r.1 = false ∧ i 57 19 = nI r.2.1 ∧ ∃ z', z ≤ z' ∧ z' + p ≤ z + r.2.1 + 1 ∧ i 57 21 = nI z'))
theorem TpM.fr {c l : Nat → Int32} {n : Nat} {I i : xI} {p z o p' z' o' z0 : Nat} (h : TpM c l n I p z o) (f : mF I i z0) (h18 : i 57 18 = nI p') (hp : p' ≤ n) (h19 : i 57 19 = -1) (h20 : i 57 20 = nI o') (h21 : i 57 21 = nI z') : TpM c l n i p' z' o' := ⟨(f.2.1 17 (by decide)).trans h.1, h.2.1, h.2.2.1, h.2.2.2.1, fun q hq => by rw [f.1 69 (by decide)]; exact h.2.2.2.2.1 q hq, h18, hp, h19, h20, h21⟩
theorem nar_n {m : Nat} (h : m < 128) : vp_nar .byte (nI m).toInt8.toInt32 = nI m := by
  have : ∀ m : Nat, m < 128 → vp_nar .byte (nI m).toInt8.toInt32 = nI m := by decide +kernel
  exact this m h
def g_add (I : xI) (z : Nat) (x v : Int32) : xI := xu (xu (xu I 70 (130 + z) x) 71 (130 + z) v) 57 21 (nI (z + 1))
theorem g_add_F {I I0 : xI} {z z0 : Nat} {x v : Int32} (h : mF I0 I z0) (hz : z0 ≤ z) : mF I0 (g_add I z x v) z0 := by
  unfold g_add
  refine mF.up57 ⟨fun a ha => ?_, fun k hk => ?_, fun k hk => ?_⟩ (by decide)
  · rw [xu_rowf (fun q => ha (by rw [q]; decide)), xu_rowf (fun q => ha (by rw [q]; decide))]
    exact h.1 a ha
  · rw [xu_row (by decide), xu_row (by decide)]
    exact h.2.1 k hk
  · rw [xu_row (by decide), xu_col (by omega), xu_col (by omega), xu_row (by decide)]
    exact h.2.2 k hk
theorem g_add_57 {I : xI} {z k : Nat} {x v : Int32} (hk : k ≠ 21) : g_add I z x v 57 k = I 57 k := by
  unfold g_add
  rw [xu_col hk, xu_row (by decide), xu_row (by decide)]
theorem g_add_21 {I : xI} {z : Nat} {x v : Int32} : g_add I z x v 57 21 = nI (z + 1) := xu_eq
theorem g_add_lo {I : xI} {z k : Nat} {x v : Int32} (hk : k < 130 + z) : g_add I z x v 70 k = I 70 k ∧ g_add I z x v 71 k = I 71 k := by
  unfold g_add
  refine ⟨?_, ?_⟩
  · rw [xu_row (by decide), xu_row (by decide), xu_col (by omega)]
  · rw [xu_row (by decide), xu_col (by omega), xu_row (by decide)]
theorem g_add_at {I : xI} {z : Nat} {x v : Int32} : g_add I z x v 70 (130 + z) = x ∧ g_add I z x v 71 (130 + z) = v := by
  unfold g_add
  refine ⟨?_, ?_⟩
  · rw [xu_row (by decide), xu_row (by decide), xu_eq]
  · rw [xu_row (by decide), xu_eq]
section
variable {I : xI} {J : xJ} {c l : Nat → Int32} {n : Nat}
theorem s_X12_look' {p : Nat} (h1 : I 57 17 = nI n) (hn : n ≤ 120) (h3 : byT c n) (hl : lRel c l) (h4 : ∀ q, q < n → I 69 q = l q) (h5 : I 57 18 = nI p) (hp : p ≤ n) (hlN : byT l n) : SpecF 0 M_X12_look [.ref 57] xG1 I J (some (.int (l p))) I J := by
  refine specF_of (L := [some (.ref 57)]) (by decide) (Nat.le_of_ble_eq_true rfl) rfl ?_
  by_cases q : p < n
  · refine iX12_look_0 (iX12_look_1 (iX12_look_4 (iX12_look_5 ?_)))
    rw [h5, h1]
    refine iX12_look_8 (fun h8 => absurd h8 (nI_ge q (by omega))) (fun h8 => ?_)
    refine iX12_look_11 (iX12_look_12 (iX12_look_15 (iX12_look_16 ?_)))
    rw [h5]
    refine iX12_look_19 (vp_in_nI (by omega) (by omega)) (iX12_look_20 (iX12_look_24 ?_))
    exact ⟨by rw [nI_clamp (by omega), h4 p q], rfl, rfl, rfl⟩
  · refine iX12_look_0 (iX12_look_1 (iX12_look_4 (iX12_look_5 ?_)))
    rw [h5, h1]
    refine iX12_look_8 (fun h8 => ?_) (fun h8 => by first | exact absurd (nI_le (a := n) (b := p) (by omega) (by omega)) h8 | exact absurd h8 (nI_le (a := n) (b := p) (by omega) (by omega)))
    refine iX12_look_23 (iX12_look_24 ?_)
    exact ⟨by rw [hlN p (by omega)], rfl, rfl, rfl⟩
theorem s_X12_look {p z o : Nat} (hlN : byT l n) (h : TpM c l n I p z o) : SpecF 0 M_X12_look [.ref 57] xG1 I J (some (.int (l p))) I J := s_X12_look' h.1 h.2.1 h.2.2.1 h.2.2.2.1 h.2.2.2.2.1 h.2.2.2.2.2.1 h.2.2.2.2.2.2.1 hlN
theorem s_X12_wrong {p : Nat} (h18 : I 57 18 = nI p) (h19 : I 57 19 = -1) : SpecF 0 M_X12_wrong [.ref 57] xG1 I J none (xu I 57 19 (nI p)) J := by
  refine specF_of (L := [some (.ref 57)]) (by decide) (Nat.le_of_ble_eq_true rfl) rfl ?_
  refine iX12_wrong_0 (iX12_wrong_1 ?_)
  rw [h19]
  refine iX12_wrong_4 (fun h4 => absurd h4 ((by decide : ¬ (0 : Int32) ≤ -1))) (fun h4 => ?_)
  refine iX12_wrong_7 (iX12_wrong_8 (iX12_wrong_9 ?_))
  rw [h18]
  refine iX12_wrong_12 (iX12_wrong_15 ?_)
  exact ⟨rfl, rfl, rfl, rfl⟩
theorem s_X12_addStep {z m : Nat} (hz : z < 130) (h21 : I 57 21 = nI z) (hm : m < 128) (v : Int32) : SpecF 0 M_X12_addStep [.ref 57, .int (nI m), .int v] xG1 I J none (g_add I z (nI m) v) J := by
  have e1 : (130 : Int32) + nI z = nI (130 + z) := nI_add 130 z
  have e2 : nI z + 1 = nI (z + 1) := nI_1 _
  refine specF_of (L := [some (.ref 57), some (.int (nI m)), some (.int v)]) (by decide) (Nat.le_of_ble_eq_true rfl) rfl ?_
  refine iX12_addStep_0 (iX12_addStep_1 (iX12_addStep_4 (iX12_addStep_7 (iX12_addStep_8 ?_))))
  rw [h21]
  refine iX12_addStep_11 ?_
  rw [e1]
  refine iX12_addStep_12 (iX12_addStep_13 (iX12_addStep_14 (vp_in_nI (by omega) (by omega)) ?_))
  rw [nI_clamp (by omega), nar_n hm]
  refine iX12_addStep_15 (iX12_addStep_16 (iX12_addStep_19 (iX12_addStep_22 (iX12_addStep_23 ?_))))
  rw [xu_row (by decide), h21]
  refine iX12_addStep_26 ?_
  rw [e1]
  refine iX12_addStep_27 (iX12_addStep_28 (vp_in_nI (by omega) (by omega)) (iX12_addStep_29 (iX12_addStep_30 (iX12_addStep_31 ?_))))
  rw [xu_row (by decide), xu_row (by decide), h21]
  refine iX12_addStep_34 (iX12_addStep_35 ?_)
  rw [e2]
  refine iX12_addStep_36 (iX12_addStep_39 ?_)
  exact ⟨rfl, rfl, by rw [nI_clamp (by omega)]; rfl, rfl⟩
theorem s_X12_nameOf (x : Int32) : SpecF 0 M_X12_nameOf [.int x] xG1 I J (some (.int (nameI x))) I J := by
  refine specF_of (L := [some (.int x)]) (by decide) (Nat.le_of_ble_eq_true rfl) rfl ?_
  refine iX12_nameOf_0 (iX12_nameOf_1 (fun h1 => ?_) (fun h1 => ?_) (fun h1 => ?_) (fun h1 => ?_) (fun h1 => ?_) (fun h1 => ?_) (fun h1_0 h1_1 h1_2 h1_3 h1_4 h1_5 => ?_))
  · refine iX12_nameOf_88 (iX12_nameOf_89 ?_)
    exact ⟨congrArg (fun z => some (Value.int z)) (by unfold nameI; grind), rfl, rfl, rfl⟩
  · refine iX12_nameOf_98 (iX12_nameOf_99 ?_)
    exact ⟨congrArg (fun z => some (Value.int z)) (by unfold nameI; grind), rfl, rfl, rfl⟩
  · refine iX12_nameOf_94 (iX12_nameOf_95 ?_)
    exact ⟨congrArg (fun z => some (Value.int z)) (by unfold nameI; grind), rfl, rfl, rfl⟩
  · refine iX12_nameOf_96 (iX12_nameOf_97 ?_)
    exact ⟨congrArg (fun z => some (Value.int z)) (by unfold nameI; grind), rfl, rfl, rfl⟩
  · refine iX12_nameOf_90 (iX12_nameOf_91 ?_)
    exact ⟨congrArg (fun z => some (Value.int z)) (by unfold nameI; grind), rfl, rfl, rfl⟩
  · refine iX12_nameOf_92 (iX12_nameOf_93 ?_)
    exact ⟨congrArg (fun z => some (Value.int z)) (by unfold nameI; grind), rfl, rfl, rfl⟩
  · refine iX12_nameOf_100 (iX12_nameOf_101 ?_)
    exact ⟨congrArg (fun z => some (Value.int z)) (by unfold nameI; grind), rfl, rfl, rfl⟩
theorem m_fig {p0 z o : Nat} {I0 : xI} (hlN : byT l n) (hz : z ≤ p0) {R : Nat × Nat} (hRE : nmG c 4 p0 0 = R) (hR2 : R.2 < 10000) : ∀ (k p v : Nat), k ≤ 4 → nmG c k p v = R → (p = p0 + (4 - k)) → ∀ I, mF I0 I z → TpM c l n I p z o → WP 3 (1000000, 0, 0) none M_X12_figure (mR I0 J z p0 o (pNum c p0)) 4 [some (.ref 57), some (.int (nI v)), some (.int (nI (4 - k)))] [] xG1 I J := by
  have out : ∀ (I : xI) (m : Nat), m ≤ 4 → R.1 = p0 + m → mF I0 I z → TpM c l n I R.1 z o → WP 3 (1000000, 0, 0) none M_X12_figure (mR I0 J z p0 o (pNum c p0)) 52 [some (.ref 57), some (.int (nI R.2)), some (.int (nI m))] [] xG1 I J := by
    intro I m hm hR1 hF hT
    obtain ⟨t1, t2, t3, t4, t5, t6, t7, t8, t9, t10⟩ := id hT
    have v6 : 0 ≤ nI R.2 := nI_pos' (by omega)
    have bad : (R.1 = p0 ∨ dg (c R.1)) → WP 3 (1000000, 0, 0) none M_X12_figure (mR I0 J z p0 o (pNum c p0)) 70 [some (.ref 57), some (.int (nI R.2)), some (.int (nI m))] [] xG1 I J := fun hb => by
      have e : pNum c p0 = (false, R.1, []) := by unfold pNum; rw [hRE, if_pos hb]
      rw [e]
      refine iX12_figure_70 (iX12_figure_71 (s_X12_wrong t6 t8) (iX12_figure_74 (iX12_figure_75 (iX12_figure_76 (iX12_figure_77 (s_X12_addStep (z := z) (m := 1) (by omega) (by rw [xu_col (by decide)]; exact t10) (by omega) _) (iX12_figure_80 ?_))))))
      exact ⟨rfl, rfl, rfl, g_add_F (hF.up57 (by decide)) (Nat.le_refl _), by rw [g_add_57 (by decide), xu_col (by decide)]; exact t6, Or.inr ⟨rfl, by rw [g_add_57 (by decide), xu_eq], z + 1, by omega, by simp only; omega, g_add_21⟩⟩
    by_cases q0 : m = 0
    · subst q0
      refine iX12_figure_52 (iX12_figure_53 (fun h53 => ?_) (fun h53 => by first | exact absurd ((rfl : nI 0 = 0)) h53 | exact absurd h53 ((rfl : nI 0 = 0))))
      exact bad (Or.inl (by omega))
    · have n53 : ¬ nI m = 0 := nI_ne0 (by omega) (by omega)
      by_cases q : dg (c R.1)
      · refine iX12_figure_52 (iX12_figure_53 (fun h53 => absurd h53 (n53)) (fun h53 => ?_))
        refine iX12_figure_56 (iX12_figure_57 (s_X12_look hlN hT) (iX12_figure_60 (iX12_figure_62 (iX12_figure_64 (s_X12_in _ _ _) (iX12_figure_67 (fun h67 => absurd h67 ((by rw [t4.dig R.1]; exact dg_in.mp q))) (fun h67 => ?_))))))
        exact bad (Or.inr q)
      · have e : pNum c p0 = (true, R.1, [nI R.2]) := by unfold pNum; rw [hRE, if_neg (by rintro (w | w); omega; exact q w)]
        rw [e]
        refine iX12_figure_52 (iX12_figure_53 (fun h53 => absurd h53 (n53)) (fun h53 => ?_))
        refine iX12_figure_56 (iX12_figure_57 (s_X12_look hlN hT) (iX12_figure_60 (iX12_figure_62 (iX12_figure_64 (s_X12_in _ _ _) (iX12_figure_67 (fun h67 => ?_) (fun h67 => by first | exact absurd ((by rw [t4.dig R.1]; exact Decidable.byContradiction fun w => q (dg_in.mpr w))) h67 | exact absurd h67 ((by rw [t4.dig R.1]; exact Decidable.byContradiction fun w => q (dg_in.mpr w)))))))))
        refine iX12_figure_74 (iX12_figure_75 (iX12_figure_76 (iX12_figure_77 (s_X12_addStep (z := z) (m := 1) (by omega) t10 (by omega) _) (iX12_figure_80 ?_))))
        exact ⟨rfl, rfl, rfl, g_add_F hF (Nat.le_refl _), by rw [g_add_57 (by decide)]; exact t6, Or.inl ⟨rfl, by rw [g_add_57 (by decide)]; exact t8, by rw [g_add_57 (by decide)]; exact t9, g_add_21, stM.one (by rw [g_add_at.1]; simp only [mAct, if_pos v6]; rfl) (by rw [g_add_at.2]; simp only [mWith, if_pos v6])⟩⟩
  intro k
  induction k with
  | zero =>
    intro p v hk hR hp I hF hT
    simp only [nmG] at hR
    subst hR
    refine iX12_figure_4 (iX12_figure_5 (iX12_figure_6 (fun h6 => ?_) (fun h6 => by first | exact absurd (Int32.le_refl _) h6 | exact absurd h6 (Int32.le_refl _))))
    exact out I 4 (by omega) (by simp only; omega) hF hT
  | succ k ih =>
    intro p v hk hR hp I hF hT
    obtain ⟨t1, t2, t3, t4, t5, t6, t7, t8, t9, t10⟩ := id hT
    have f6 : ¬ (4 : Int32) ≤ nI (4 - (k + 1)) := nI_ge (b := 4) (by omega) (by omega)
    simp only [nmG] at hR
    by_cases q : dg (c p)
    · rw [if_pos q] at hR
      obtain ⟨d, hd, ed, ed2⟩ := dg_n q
      rw [ed2] at hR
      have el := t4.dg p q
      have ev : 10 * nI v + l p - 48 = nI (10 * v + d) := by
        rw [el, ed, show (10 : Int32) * nI v = nI (10 * v) from pk_mul 10 v, nI_add, show nI (10 * v + (48 + d)) - 48 = nI (10 * v + (48 + d) - 48) from pk_sub (b := 48) (by omega), show 10 * v + (48 + d) - 48 = 10 * v + d by omega]
      have ep : nI p + 1 = nI (p + 1) := nI_1 _
      have ek : nI (4 - (k + 1)) + (1) = nI (4 - k) := by rw [nI_1, show 4 - (k + 1) + 1 = 4 - k by omega]
      have hp1 : p < n := byT_lt t3 (fun w => by rw [w] at q; exact absurd q.1 (by decide))
      refine iX12_figure_4 (iX12_figure_5 (iX12_figure_6 (fun h6 => absurd h6 (f6)) (fun h6 => ?_)))
      refine iX12_figure_9 (iX12_figure_10 (s_X12_look hlN hT) (iX12_figure_13 (iX12_figure_15 (iX12_figure_17 (s_X12_in _ _ _) (iX12_figure_20 (fun h20 => absurd h20 ((by rw [t4.dig p]; exact dg_in.mp q))) (fun h20 => ?_))))))
      refine iX12_figure_23 (iX12_figure_25 (iX12_figure_26 (iX12_figure_27 (iX12_figure_28 (s_X12_look hlN hT) (iX12_figure_31 (iX12_figure_32 (iX12_figure_34 ?_)))))))
      rw [ev]
      refine iX12_figure_35 (iX12_figure_36 (iX12_figure_39 (iX12_figure_40 (iX12_figure_41 ?_))))
      rw [t6]
      refine iX12_figure_44 (iX12_figure_45 ?_)
      rw [ep]
      refine iX12_figure_46 (iX12_figure_49 ?_)
      rw [ek]
      exact ih (p + 1) (10 * v + d) (by omega) hR (by omega) _ (hF.up57 (by decide)) (hT.fr (mF.rf.up57 (z := z) (by decide)) xu_eq (by omega) (by rw [xu_col (by decide)]; exact t8) (by rw [xu_col (by decide)]; exact t9) (by rw [xu_col (by decide)]; exact t10))
    · rw [if_neg q] at hR
      subst hR
      refine iX12_figure_4 (iX12_figure_5 (iX12_figure_6 (fun h6 => absurd h6 (f6)) (fun h6 => ?_)))
      refine iX12_figure_9 (iX12_figure_10 (s_X12_look hlN hT) (iX12_figure_13 (iX12_figure_15 (iX12_figure_17 (s_X12_in _ _ _) (iX12_figure_20 (fun h20 => ?_) (fun h20 => by first | exact absurd ((by rw [t4.dig p]; exact Decidable.byContradiction fun w => q (dg_in.mpr w))) h20 | exact absurd h20 ((by rw [t4.dig p]; exact Decidable.byContradiction fun w => q (dg_in.mpr w)))))))))
      exact out I (4 - (k + 1)) (by omega) hp hF hT
theorem s_X12_figure {p z o : Nat} (hlN : byT l n) (hT : TpM c l n I p z o) (hz : z ≤ p) : Spec 3 (1000000, 0, 0) M_X12_figure [.ref 57] xG1 I J (mR I J z p o (pNum c p)) := by
  refine spec_of (L := [some (.ref 57), none, none]) (by decide) (Nat.le_of_ble_eq_true rfl) rfl ?_
  have h3 := (nmG_ok hT.2.2.1 4 p 0 hT.2.2.2.2.2.2.1).2.2 (by decide)
  have := m_fig (J := J) (I0 := I) (o := o) hlN hz rfl h3 4 p 0 (by omega) rfl (by omega) I mF.rf hT
  exact iX12_figure_0 (iX12_figure_1 (iX12_figure_2 (iX12_figure_3 this)))
end
