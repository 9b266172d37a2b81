/-! ===== the reference: gives() ===== -/
section
variable {J : xJ} {Q : xP}
theorem m_seg {I0 : xI} {F : Nat → Int32} (hF : ∀ j : Nat, j < 6 → I0 75 j = F j) {m' e0 : Nat} (he : e0 ≤ 130) {s0 : Int32} : ∀ (ts : List Int32) (i m : Nat) (st : List Int32) (I : xI), (∀ (k : Nat) (t : Int32), ts[k]? = some t → I0 70 (i + k) = mAct t ∧ I0 71 (i + k) = mWith t) → (∀ t ∈ ts, tokOk t) → m = st.length → m ≤ 40 → i + ts.length = e0 → hgt 40 ts m = some m' → rep (I 76) st → xFr [76] I0 I → (∀ I1, xFr [76] I0 I1 → rep (I1 76) (ev F ts st) → ∀ a6, WP 5 (1000000, 0, 0) none M_X12_worked Q 12 [some (.ref 57), some (.int 0), some (.int s0), some (.int (nI e0)), some (.int (nI m')), some (.int (nI e0)), a6] [] xG1 I1 J) → ∀ a6, WP 5 (1000000, 0, 0) none M_X12_worked Q 12 [some (.ref 57), some (.int 0), some (.int s0), some (.int (nI e0)), some (.int (nI m)), some (.int (nI i)), a6] [] xG1 I J := by
  intro ts
  induction ts with
  | nil =>
    intro i m st I h1 h2 h3 h4 hl h5 h6 h7 k a6
    have e : m' = m := by simp [hgt] at h5; exact h5.symm
    subst e
    have e2 : i = e0 := by simpa using hl
    subst e2
    exact k I h7 h6 a6
  | cons t ts ih =>
    intro i m st I h1 h2 h3 h4 hl h5 h6 h7 k a6
    simp only [List.length_cons] at hl
    obtain ⟨ht70, ht71⟩ := h1 0 t rfl
    rw [Nat.add_zero] at ht70 ht71
    have f70 : I 70 i = mAct t := by rw [h7 70 (by decide)]; exact ht70
    have f71 : I 71 i = mWith t := by rw [h7 71 (by decide)]; exact ht71
    have f75 : ∀ j : Nat, j < 6 → I 75 j = F j := fun j hj => by rw [h7 75 (by decide)]; exact hF j hj
    have e0' : (130 : Int32) * 0 + nI e0 = nI e0 := by rw [show (130 : Int32) * 0 = nI 0 by decide, nI_add, Nat.zero_add]
    have t21 : ¬ nI e0 ≤ nI i := nI_ge (by omega) (by omega)
    have e1 : nI i + (1) = nI (i + 1) := nI_1 _
    have em : nI m + (1) = nI (m + 1) := nI_1 _
    have hts := fun x hx => h2 x (List.mem_cons_of_mem _ hx)
    have h1' : ∀ (k : Nat) (t : Int32), ts[k]? = some t → I0 70 (i + 1 + k) = mAct t ∧ I0 71 (i + 1 + k) = mWith t := fun k t hk => by rw [show i + 1 + k = i + (k + 1) by omega]; exact h1 (k + 1) t hk
    rcases tok_cases (h2 t List.mem_cons_self) with q | ⟨q, q2⟩ | q | q | q
    · obtain ⟨g1, g2⟩ := hgt_push (Int32.le_trans (by decide) q) h5
      have eE : ev F (t :: ts) st = ev F ts (t :: st) := by simp only [ev, tSt, if_pos q]
      rw [eE] at k
      have eA : mAct t = 1 := by simp only [mAct, if_pos q]
      have eW : mWith t = t := by simp only [mWith, if_pos q]
      rw [eA] at f70
      rw [eW] at f71
      refine iX12_worked_12 (iX12_worked_14 (iX12_worked_17 (iX12_worked_18 (iX12_worked_19 (iX12_worked_20 ?_)))))
      rw [e0']
      refine iX12_worked_21 (fun h21 => absurd h21 (t21)) (fun h21 => ?_)
      refine iX12_worked_24 (iX12_worked_25 (iX12_worked_28 (iX12_worked_30 (vp_in_nI (by omega) (by omega)) ?_)))
      rw [nI_clamp (by omega), f70]
      refine iX12_worked_31 (iX12_worked_33 (iX12_worked_35 (iX12_worked_36 (fun h36 => ?_) (fun h36 => by first | exact absurd (rfl) h36 | exact absurd h36 (rfl)))))
      refine iX12_worked_45 (iX12_worked_46 (iX12_worked_49 (iX12_worked_51 (iX12_worked_53 (iX12_worked_54 (fun h54 => absurd h54 ((fun w => w rfl))) (fun h54 => ?_))))))
      refine iX12_worked_57 (iX12_worked_58 (iX12_worked_61 (iX12_worked_63 (vp_in_nI (by omega) (by omega)) ?_)))
      rw [nI_clamp (by omega), f71]
      refine iX12_worked_64 (iX12_worked_79 (vp_in_nI (by omega) (by omega)) (iX12_worked_80 (iX12_worked_83 (iX12_worked_182 (iX12_worked_185 ?_)))))
      rw [nI_clamp (by omega), em, e1, h3]
      exact ih (i + 1) (st.length + 1) (t :: st) _ h1' hts rfl (by omega) (by omega) (by rw [← h3]; exact g2) (rep_up h6) (h7.up (by decide)) k _
    · obtain ⟨g1, g2⟩ := hgt_push q2 h5
      have eE : ev F (t :: ts) st = ev F ts (F (-t - 1).toNatClampNeg :: st) := by simp only [ev, tSt, if_neg q, if_pos q2]
      rw [eE] at k
      have eA : mAct t = 2 := by simp only [mAct, if_neg q, if_pos q2]
      have eW : mWith t = -t - 1 := by
        simp only [mWith, if_neg q, if_pos q2]
        have := neg_names q q2
        rcases this with rfl | rfl | rfl | rfl | rfl | rfl <;> decide
      have T3 : vp_in (-t - 1) 6 := by
        have := neg_names q q2
        rcases this with rfl | rfl | rfl | rfl | rfl | rfl <;> exact vp_in_iff.mpr ⟨by decide, by decide⟩
      have T4 : (-t - 1).toNatClampNeg < 6 := Nat.not_le.mp fun w => T3 (Or.inr w)
      rw [eA] at f70
      rw [eW] at f71
      refine iX12_worked_12 (iX12_worked_14 (iX12_worked_17 (iX12_worked_18 (iX12_worked_19 (iX12_worked_20 ?_)))))
      rw [e0']
      refine iX12_worked_21 (fun h21 => absurd h21 (t21)) (fun h21 => ?_)
      refine iX12_worked_24 (iX12_worked_25 (iX12_worked_28 (iX12_worked_30 (vp_in_nI (by omega) (by omega)) ?_)))
      rw [nI_clamp (by omega), f70]
      refine iX12_worked_31 (iX12_worked_33 (iX12_worked_35 (iX12_worked_36 (fun h36 => absurd h36 ((by decide))) (fun h36 => ?_))))
      refine iX12_worked_39 (iX12_worked_41 (iX12_worked_42 (fun h42 => absurd h42 ((fun w => w rfl))) (fun h42 => ?_)))
      refine iX12_worked_45 (iX12_worked_46 (iX12_worked_49 (iX12_worked_51 (iX12_worked_53 (iX12_worked_54 (fun h54 => ?_) (fun h54 => by first | exact absurd ((by decide)) h54 | exact absurd h54 ((by decide))))))))
      refine iX12_worked_67 (iX12_worked_68 (iX12_worked_71 (iX12_worked_72 (iX12_worked_75 (iX12_worked_77 (vp_in_nI (by omega) (by omega)) ?_)))))
      rw [nI_clamp (by omega), f71]
      refine iX12_worked_78 T3 ?_
      rw [f75 _ T4]
      refine iX12_worked_79 (vp_in_nI (by omega) (by omega)) (iX12_worked_80 (iX12_worked_83 (iX12_worked_182 (iX12_worked_185 ?_))))
      rw [nI_clamp (by omega), em, e1, h3]
      exact ih (i + 1) (st.length + 1) (F (-t - 1).toNatClampNeg :: st) _ h1' hts rfl (by omega) (by omega) (by rw [← h3]; exact g2) (rep_up h6) (h7.up (by decide)) k _
    · obtain ⟨g1, g2⟩ := hgt_un (Or.inl q) h5
      subst q
      have f70 : I 70 i = 3 := f70
      match st, h3, h6, k, g1 with
      | v :: r, h3, h6, k, _ =>
      simp only [List.length_cons] at h3
      subst h3
      obtain ⟨h6a, h6b⟩ := h6
      have ep : nI (r.length + 1) - 1 = nI r.length := nI_pred _
      refine iX12_worked_12 (iX12_worked_14 (iX12_worked_17 (iX12_worked_18 (iX12_worked_19 (iX12_worked_20 ?_)))))
      rw [e0']
      refine iX12_worked_21 (fun h21 => absurd h21 (t21)) (fun h21 => ?_)
      refine iX12_worked_24 (iX12_worked_25 (iX12_worked_28 (iX12_worked_30 (vp_in_nI (by omega) (by omega)) ?_)))
      rw [nI_clamp (by omega), f70]
      refine iX12_worked_31 (iX12_worked_33 (iX12_worked_35 (iX12_worked_36 (fun h36 => absurd h36 ((by decide))) (fun h36 => ?_))))
      refine iX12_worked_39 (iX12_worked_41 (iX12_worked_42 (fun h42 => ?_) (fun h42 => by first | exact absurd ((by decide)) h42 | exact absurd h42 ((by decide)))))
      refine iX12_worked_86 (iX12_worked_88 (iX12_worked_89 (fun h89 => absurd h89 ((fun w => w rfl))) (fun h89 => ?_)))
      refine iX12_worked_92 (iX12_worked_93 (iX12_worked_96 (iX12_worked_98 (iX12_worked_99 ?_))))
      rw [ep]
      refine iX12_worked_100 (iX12_worked_101 (iX12_worked_104 (iX12_worked_106 (iX12_worked_107 ?_))))
      rw [ep]
      refine iX12_worked_108 (vp_in_nI (by omega) (by omega)) ?_
      rw [nI_clamp (by omega), h6a]
      refine iX12_worked_109 (fun h109 => ?_) (fun h109 => ?_)
      · refine iX12_worked_116 (iX12_worked_117 (vp_in_nI (by omega) (by omega)) (iX12_worked_118 (iX12_worked_182 (iX12_worked_185 ?_))))
        rw [nI_clamp (by omega), e1]
        refine ih (i + 1) (r.length + 1) ((if v = 0 then 1 else 0) :: r) _ h1' hts rfl h4 (by omega) g2 ?_ (h7.up (by decide)) k _
        first | rw [if_neg ‹_›] | rw [if_pos ‹_›] | rw [if_pos (Decidable.not_not.mp ‹_›)]
        exact rep_up h6b
      · refine iX12_worked_112 (iX12_worked_113 (iX12_worked_117 (vp_in_nI (by omega) (by omega)) (iX12_worked_118 (iX12_worked_182 (iX12_worked_185 ?_)))))
        rw [nI_clamp (by omega), e1]
        refine ih (i + 1) (r.length + 1) ((if v = 0 then 1 else 0) :: r) _ h1' hts rfl h4 (by omega) g2 ?_ (h7.up (by decide)) k _
        first | rw [if_neg ‹_›] | rw [if_pos ‹_›] | rw [if_pos (Decidable.not_not.mp ‹_›)]
        exact rep_up h6b
    · obtain ⟨g1, g2⟩ := hgt_un (Or.inr q) h5
      subst q
      have f70 : I 70 i = 4 := f70
      match st, h3, h6, k, g1 with
      | v :: r, h3, h6, k, _ =>
      simp only [List.length_cons] at h3
      subst h3
      obtain ⟨h6a, h6b⟩ := h6
      have ep : nI (r.length + 1) - 1 = nI r.length := nI_pred _
      refine iX12_worked_12 (iX12_worked_14 (iX12_worked_17 (iX12_worked_18 (iX12_worked_19 (iX12_worked_20 ?_)))))
      rw [e0']
      refine iX12_worked_21 (fun h21 => absurd h21 (t21)) (fun h21 => ?_)
      refine iX12_worked_24 (iX12_worked_25 (iX12_worked_28 (iX12_worked_30 (vp_in_nI (by omega) (by omega)) ?_)))
      rw [nI_clamp (by omega), f70]
      refine iX12_worked_31 (iX12_worked_33 (iX12_worked_35 (iX12_worked_36 (fun h36 => absurd h36 ((by decide))) (fun h36 => ?_))))
      refine iX12_worked_39 (iX12_worked_41 (iX12_worked_42 (fun h42 => ?_) (fun h42 => by first | exact absurd ((by decide)) h42 | exact absurd h42 ((by decide)))))
      refine iX12_worked_86 (iX12_worked_88 (iX12_worked_89 (fun h89 => ?_) (fun h89 => by first | exact absurd ((by decide)) h89 | exact absurd h89 ((by decide)))))
      refine iX12_worked_121 (iX12_worked_123 (iX12_worked_124 (fun h124 => absurd h124 ((fun w => w rfl))) (fun h124 => ?_)))
      refine iX12_worked_127 (iX12_worked_128 (iX12_worked_131 (iX12_worked_133 (iX12_worked_134 ?_))))
      rw [ep]
      refine iX12_worked_135 (iX12_worked_136 (iX12_worked_139 (iX12_worked_141 (iX12_worked_142 ?_))))
      rw [ep]
      refine iX12_worked_143 (vp_in_nI (by omega) (by omega)) ?_
      rw [nI_clamp (by omega), h6a]
      refine iX12_worked_144 (iX12_worked_145 (vp_in_nI (by omega) (by omega)) (iX12_worked_146 (iX12_worked_182 (iX12_worked_185 ?_))))
      rw [nI_clamp (by omega), e1]
      exact ih (i + 1) (r.length + 1) ((-v) :: r) _ h1' hts rfl h4 (by omega) g2 (rep_up h6b) (h7.up (by decide)) k _
    · obtain ⟨g1, g2⟩ := hgt_bin q h5
      obtain ⟨a1, a2, a3', a4, b1, b2, b3, b4, b5, b6, b7, b8, b9, b10, b11, b12⟩ := bin_facts q
      rw [b8] at f70
      match st, h3, h6, k, g1 with
      | y :: x :: r, h3, h6, k, _ =>
      simp only [List.length_cons] at h3
      subst h3
      obtain ⟨h6a, h6b, h6c⟩ := h6
      have eE : ev F (t :: ts) (y :: x :: r) = ev F ts (tWork (-t) x y :: r) := by simp only [ev, tSt, if_neg a1, if_neg a2, if_neg a3', if_neg a4]
      rw [eE] at k
      have ep : nI (r.length + 1) - 1 = nI r.length := nI_pred _
      have ep2 : nI (r.length + 1 + 1) + (-1) = nI (r.length + 1) := pk_m1 _
      refine iX12_worked_12 (iX12_worked_14 (iX12_worked_17 (iX12_worked_18 (iX12_worked_19 (iX12_worked_20 ?_)))))
      rw [e0']
      refine iX12_worked_21 (fun h21 => absurd h21 (t21)) (fun h21 => ?_)
      refine iX12_worked_24 (iX12_worked_25 (iX12_worked_28 (iX12_worked_30 (vp_in_nI (by omega) (by omega)) ?_)))
      rw [nI_clamp (by omega), f70]
      refine iX12_worked_31 (iX12_worked_33 (iX12_worked_35 (iX12_worked_36 (fun h36 => absurd h36 (b9)) (fun h36 => ?_))))
      refine iX12_worked_39 (iX12_worked_41 (iX12_worked_42 (fun h42 => ?_) (fun h42 => by first | exact absurd (b10) h42 | exact absurd h42 (b10))))
      refine iX12_worked_86 (iX12_worked_88 (iX12_worked_89 (fun h89 => ?_) (fun h89 => by first | exact absurd (b11) h89 | exact absurd h89 (b11))))
      refine iX12_worked_121 (iX12_worked_123 (iX12_worked_124 (fun h124 => ?_) (fun h124 => by first | exact absurd (b12) h124 | exact absurd h124 (b12))))
      refine iX12_worked_149 ?_
      rw [ep2]
      refine iX12_worked_152 (iX12_worked_153 (iX12_worked_156 (iX12_worked_158 (iX12_worked_159 ?_))))
      rw [ep]
      refine iX12_worked_160 (iX12_worked_162 (iX12_worked_163 (iX12_worked_166 (iX12_worked_168 (iX12_worked_169 ?_)))))
      rw [ep]
      refine iX12_worked_170 (vp_in_nI (by omega) (by omega)) ?_
      rw [nI_clamp (by omega), h6b]
      refine iX12_worked_171 (iX12_worked_172 (iX12_worked_175 (iX12_worked_177 (vp_in_nI (by omega) (by omega)) ?_)))
      rw [nI_clamp (by omega), show I 76 (r.length + 1) = y from h6a]
      refine iX12_worked_178 (s_X12_twoOf _ _ _ b7) (iX12_worked_181 (vp_in_nI (by omega) (by omega)) (iX12_worked_182 (iX12_worked_185 ?_)))
      rw [nI_clamp (by omega), e1]
      exact ih (i + 1) (r.length + 1) (tWork (-t) x y :: r) _ h1' hts rfl (by omega) (by omega) g2 (rep_up h6c) (h7.up (by decide)) k _
theorem s_X12_worked {I : xI} {F : Nat → Int32} (hF : ∀ j : Nat, j < 6 → I 75 j = F j) {ts : List Int32} {i : Nat} (hi : i + ts.length ≤ 130) (hts : okE ts) (h1 : ∀ (k : Nat) (t : Int32), ts[k]? = some t → I 70 (i + k) = mAct t ∧ I 71 (i + k) = mWith t) : Spec 5 (1000000, 0, 0) M_X12_worked [.ref 57, .int 0, .int (nI i), .int (nI (i + ts.length))] xG1 I J (fun r2 g2 I2 J2 => r2 = some (.int ((ev F ts []).headD 0)) ∧ g2 = xG1 ∧ xFr [76] I I2 ∧ J2 = J) := by
  refine spec_of (L := [some (.ref 57), some (.int 0), some (.int (nI i)), some (.int (nI (i + ts.length))), none, none, none]) (by decide) (Nat.le_of_ble_eq_true rfl) rfl ?_
  have e0' : ∀ x : Nat, (130 : Int32) * 0 + nI x = nI x := fun x => by rw [show (130 : Int32) * 0 = nI 0 by decide, nI_add, Nat.zero_add]
  have hlen := ev_len (F := F) ts [] hts.2 hts.1
  have tail : ∀ (I1 : xI), xFr [76] I I1 → rep (I1 76) (ev F ts []) → ∀ a6, WP 5 (1000000, 0, 0) none M_X12_worked (fun r2 g2 I2 J2 => r2 = some (.int ((ev F ts []).headD 0)) ∧ g2 = xG1 ∧ xFr [76] I I2 ∧ J2 = J) 12 [some (.ref 57), some (.int 0), some (.int (nI i)), some (.int (nI (i + ts.length))), some (.int (nI 1)), some (.int (nI (i + ts.length))), a6] [] xG1 I1 J := by
    intro I1 hI1 hrep a6
    match hE : ev F ts [], hlen, hrep with
    | [v], _, hrep =>
    have f5 : I1 76 0 = v := hrep.1
    refine iX12_worked_12 (iX12_worked_14 (iX12_worked_17 (iX12_worked_18 (iX12_worked_19 (iX12_worked_20 ?_)))))
    rw [e0']
    refine iX12_worked_21 (fun h21 => ?_) (fun h21 => by first | exact absurd (Int32.le_refl _) h21 | exact absurd h21 (Int32.le_refl _))
    refine iX12_worked_188 (iX12_worked_189 (iX12_worked_192 (iX12_worked_193 (vin 130 (by decide) (by decide) (by decide)) (iX12_worked_194 ?_))))
    exact ⟨congrArg (fun z => some (Value.int z)) f5, rfl, hI1, rfl⟩
  refine iX12_worked_0 (iX12_worked_1 (iX12_worked_3 (iX12_worked_6 (iX12_worked_7 (iX12_worked_8 (iX12_worked_9 ?_))))))
  rw [e0']
  refine iX12_worked_10 ?_
  exact m_seg hF hi ts i 0 [] I h1 hts.2 rfl (by omega) rfl hts.1 trivial xFr.rf tail _
theorem lwM_cons {l : List Int32 × List Int32} {ls : lwT} : lwModel (l :: ls) = l.1 ++ (l.2 ++ lwModel ls) := by simp [lwModel]
/-- the lines from the j-th on -/
theorem m_lines {I0 : xI} {F : Nat → Int32} {L : lwT} (hL : lwIs I0 L) (hF : ∀ j : Nat, j < 6 → I0 75 j = F j) : ∀ (ls : lwT) (j p : Nat), (∀ (k : Nat) (l : List Int32 × List Int32), ls[k]? = some l → L[j + k]? = some l) → j + ls.length = L.length → p = lwStart L j → (∀ (k : Nat) (t : Int32), (lwModel ls)[k]? = some t → (lwModel L)[p + k]? = some t) → p + (lwModel ls).length = (lwModel L).length → ∀ (I : xI), xFr [76] I0 I → WP 7 (1000000, 0, 0) none M_X12_gives (fun r2 g2 I2 J2 => r2 = some (.int (lw F ls)) ∧ g2 = xG1 ∧ xFr [76] I0 I2 ∧ J2 = J) 7 [some (.ref 57), some (.int 0), some (.int (nI p)), some (.int (nI j))] [] xG1 I J := by
  obtain ⟨b0, b1, b2, b3, b4, b5, b6, b7, b8, b9, b10⟩ := hL
  intro ls
  induction ls with
  | nil =>
    intro j p h1 h2 h3 h4 h5 I hI
    have e : j = L.length := by simpa using h2
    have f72 : I 72 0 = nI L.length := by rw [hI 72 (by decide)]; exact b8
    have e19 : (61 : Int32) * 0 + I 72 0 = nI L.length := by rw [f72, show (61 : Int32) * 0 = nI 0 by decide, nI_add, Nat.zero_add]
    refine iX12_gives_7 (iX12_gives_8 (iX12_gives_10 (iX12_gives_11 (iX12_gives_12 (iX12_gives_13 (iX12_gives_16 (iX12_gives_17 (vin 2 (by decide) (by decide) (by decide)) (iX12_gives_18 ?_))))))))
    rw [show (0 : Int32).toNatClampNeg = 0 by decide, e19]
    refine iX12_gives_19 (fun h19 => ?_) (fun h19 => by first | exact absurd (nI_le (by omega) (by omega)) h19 | exact absurd h19 (nI_le (by omega) (by omega)))
    refine iX12_gives_78 (iX12_gives_79 ?_)
    exact ⟨rfl, rfl, hI, rfl⟩
  | cons l ls ih =>
    intro j p h1 h2 h3 h4 h5 I hI
    simp only [List.length_cons] at h2
    have hl := h1 0 l rfl
    rw [Nat.add_zero] at hl
    have hlm := List.mem_of_getElem? hl
    obtain ⟨o1, o2⟩ := b1 l hlm
    obtain ⟨q1, q2⟩ := b10 j l hl
    rw [← h3] at q1 q2
    rw [lwM_cons] at h4 h5
    simp only [List.length_append] at h5
    obtain ⟨hA, hB⟩ := get_app h4
    obtain ⟨hB1, hB2⟩ := get_app hB
    have rowsOf : ∀ I', xFr [76] I0 I' → ∀ (ts : List Int32) (s : Nat), (∀ (k : Nat) (t : Int32), ts[k]? = some t → (lwModel L)[s + k]? = some t) → ∀ (k : Nat) (t : Int32), ts[k]? = some t → I' 70 (s + k) = mAct t ∧ I' 71 (s + k) = mWith t := fun I' hI' ts s hts k t hk => by
      rw [hI' 70 (by decide), hI' 71 (by decide)]
      exact b9 _ _ (hts k t hk)
    have f72 : I 72 0 = nI L.length := by rw [hI 72 (by decide)]; exact b8
    have e19 : (61 : Int32) * 0 + I 72 0 = nI L.length := by rw [f72, show (61 : Int32) * 0 = nI 0 by decide, nI_add, Nat.zero_add]
    have t19 : ¬ nI L.length ≤ nI j := nI_ge (by omega) (by omega)
    have f73 : ∀ I', xFr [76] I0 I' → I' 73 j = nI (p + l.1.length) := fun I' hI' => by rw [hI' 73 (by decide)]; exact q1
    have f74 : ∀ I', xFr [76] I0 I' → I' 74 j = nI (p + l.1.length + l.2.length) := fun I' hI' => by rw [hI' 74 (by decide)]; exact q2
    have tail : ∀ I', xFr [76] I0 I' → lw F (l :: ls) = (ev F l.2 []).headD 0 → WP 7 (1000000, 0, 0) none M_X12_gives (fun r2 g2 I2 J2 => r2 = some (.int (lw F (l :: ls))) ∧ g2 = xG1 ∧ xFr [76] I0 I2 ∧ J2 = J) 47 [some (.ref 57), some (.int 0), some (.int (nI p)), some (.int (nI j))] [] xG1 I' J := by
      intro I' hI' e
      rw [e]
      have sp := s_X12_worked (I := I') (J := J) (F := F) (fun j hj => by rw [hI' 75 (by decide)]; exact hF j hj) (ts := l.2) (i := p + l.1.length) (by omega) o2 (rowsOf I' hI' _ _ hB1)
      refine iX12_gives_47 (iX12_gives_48 (iX12_gives_49 (iX12_gives_50 (iX12_gives_53 (iX12_gives_54 (vp_in_nI (by omega) (by omega)) ?_)))))
      rw [nI_clamp (by omega), f73 I' hI']
      refine iX12_gives_55 (iX12_gives_56 (iX12_gives_59 (iX12_gives_60 (vp_in_nI (by omega) (by omega)) ?_)))
      rw [nI_clamp (by omega), f74 I' hI']
      refine jX12_gives_61 sp (fun r61 g61 I61 J61 hq => ?_)
      obtain ⟨rfl, rfl, hq3, rfl⟩ := hq
      refine iX12_gives_64 ?_
      exact ⟨rfl, rfl, hI'.tr hq3, rfl⟩
    by_cases q : l.1 = []
    · have e : lw F (l :: ls) = (ev F l.2 []).headD 0 := by simp only [lw]; rw [if_pos (Or.inl q)]
      have e0 : p + l.1.length = p := by rw [q]; rfl
      refine iX12_gives_7 (iX12_gives_8 (iX12_gives_10 (iX12_gives_11 (iX12_gives_12 (iX12_gives_13 (iX12_gives_16 (iX12_gives_17 (vin 2 (by decide) (by decide) (by decide)) (iX12_gives_18 ?_))))))))
      rw [show (0 : Int32).toNatClampNeg = 0 by decide, e19]
      refine iX12_gives_19 (fun h19 => absurd h19 (t19)) (fun h19 => ?_)
      refine iX12_gives_22 (iX12_gives_23 (iX12_gives_26 (iX12_gives_27 (vp_in_nI (by omega) (by omega)) ?_)))
      rw [nI_clamp (by omega), f73 I hI, e0]
      refine iX12_gives_28 (iX12_gives_29 (fun h29 => ?_) (fun h29 => by first | exact absurd (rfl) h29 | exact absurd h29 (rfl)))
      exact tail I hI e
    · have o1 : okE l.1 := o1.resolve_left q
      have hlen0 : 0 < l.1.length := List.length_pos_iff.mpr q
      have sp := s_X12_worked (I := I) (J := J) (F := F) (fun j hj => by rw [hI 75 (by decide)]; exact hF j hj) (ts := l.1) (i := p) (by omega) o1 (rowsOf I hI _ _ hA)
      have n29 : ¬ nI (p + l.1.length) = nI p := fun w => by
        have := (nI_eq (by omega) (by omega)).mp w
        omega
      refine iX12_gives_7 (iX12_gives_8 (iX12_gives_10 (iX12_gives_11 (iX12_gives_12 (iX12_gives_13 (iX12_gives_16 (iX12_gives_17 (vin 2 (by decide) (by decide) (by decide)) (iX12_gives_18 ?_))))))))
      rw [show (0 : Int32).toNatClampNeg = 0 by decide, e19]
      refine iX12_gives_19 (fun h19 => absurd h19 (t19)) (fun h19 => ?_)
      refine iX12_gives_22 (iX12_gives_23 (iX12_gives_26 (iX12_gives_27 (vp_in_nI (by omega) (by omega)) ?_)))
      rw [nI_clamp (by omega), f73 I hI]
      refine iX12_gives_28 (iX12_gives_29 (fun h29 => absurd h29 (n29)) (fun h29 => ?_))
      refine iX12_gives_32 (iX12_gives_33 (iX12_gives_34 (iX12_gives_35 (iX12_gives_36 (iX12_gives_39 (iX12_gives_40 (vp_in_nI (by omega) (by omega)) ?_))))))
      rw [nI_clamp (by omega), f73 I hI]
      refine jX12_gives_41 sp (fun r41 g41 I41 J41 hq => ?_)
      obtain ⟨rfl, rfl, hq3, rfl⟩ := hq
      refine iX12_gives_44 (fun h44 => ?_) (fun h44 => ?_)
      · refine iX12_gives_65 (iX12_gives_66 (iX12_gives_69 (iX12_gives_70 (vp_in_nI (by omega) (by omega)) (iX12_gives_71 (iX12_gives_72 (iX12_gives_75 ?_))))))
        have e : lw F (l :: ls) = lw F ls := by
          simp only [lw]
          rw [if_neg]
          rintro (w | w)
          · exact q w
          · exact w h44
        have e1 : nI j + (1) = nI (j + 1) := nI_1 _
        rw [e, e1, nI_clamp (by omega), f74 _ (hI.tr hq3)]
        refine ih (j + 1) _ (fun k l' hk => by rw [show j + 1 + k = j + (k + 1) by omega]; exact h1 (k + 1) l' hk) (by omega) ?_ hB2 (by omega) _ (hI.tr hq3)
        have : L.take (j + 1) = L.take j ++ [l] := by rw [List.take_succ, hl]; rfl
        unfold lwStart at h3 ⊢
        rw [this]
        simp only [lwModel, List.flatMap_append, List.flatMap_cons, List.flatMap_nil, List.append_nil, List.length_append] at h3 ⊢
        omega
      · exact tail _ (hI.tr hq3) (by simp only [lw]; exact if_pos (Or.inr h44))
theorem s_X12_gives {I : xI} {ls : lwT} (h : lwIs I ls) {F : Nat → Int32} (hF : ∀ j : Nat, j < 6 → I 75 j = F j) : Spec 7 (1000000, 0, 0) M_X12_gives [.ref 57, .int 0] xG1 I J (fun r g I2 J2 => r = some (.int (lw F ls)) ∧ g = xG1 ∧ xFr [76] I I2 ∧ J2 = J) := by
  refine spec_of (L := [some (.ref 57), some (.int 0), none, none]) (by decide) (Nat.le_of_ble_eq_true rfl) rfl ?_
  refine iX12_gives_0 (iX12_gives_1 (iX12_gives_2 (iX12_gives_4 (iX12_gives_5 (iX12_gives_6 ?_)))))
  exact m_lines h hF ls 0 0 (fun k l hk => by rw [Nat.zero_add]; exact hk) (by omega) (by simp [lwStart, lwModel]) (fun k t hk => by rw [Nat.zero_add]; exact hk) (by omega) I xFr.rf
end
