/-! ===== the reference reads a law ===== -/
def mTQ (I : xI) (J : xJ) (r : Bool × Nat × lwT) : xP := fun v g i j => g = xG1 ∧ j = J ∧ (∀ b : Nat, b ∉ [57, 70, 71, 72, 73, 74] → i b = I b) ∧ (∀ k : Nat, k ∉ [17, 18, 19, 20, 21] → i 57 k = I 57 k) ∧ i 57 17 = 0 ∧ ((r.1 = true ∧ v = some (.int (-1)) ∧ stM i 0 (lwModel r.2.2) ∧ i 72 0 = nI r.2.2.length ∧ ∀ (j : Nat) (l : List Int32 × List Int32), r.2.2[j]? = some l → i 73 j = nI (lwStart r.2.2 j + l.1.length) ∧ i 74 j = nI (lwStart r.2.2 j + l.1.length + l.2.length)) ∨ (r.1 = false ∧ v = some (.int (nI r.2.1)) ∧ (∀ k, k < 130 → i 70 k = I 70 k ∧ i 71 k = I 71 k) ∧ i 72 0 = I 72 0 ∧ ∀ k, k < 61 → i 73 k = I 73 k ∧ i 74 k = I 74 k))
section
variable {J : xJ} {c l : Nat → Int32} {n : Nat}
/-- the loop over the lines, from behind one -/
theorem m_row_by_row (hlN : byT l n) {I0 : xI} {R : Bool × Nat × lwT} (K : ∀ i : xI, mFL I0 i 0 0 → (R.1 = true ∧ i 57 19 = -1 ∧ lnM i R.2.2 ∨ R.1 = false ∧ i 57 19 = nI R.2.1) → WP 48 (1000000, 0, 0) none M_X12_readText (mTQ I0 J R) 86 [some (.ref 57), some (.int 0), none] [] xG1 i J) : ∀ (f p : Nat) (ls : lwT) (z0 : Nat) (I i : xI), ls.length + f = 99 → (lwModel ls).length + ls.length ≤ p → 2 * ls.length ≤ p → TpM c l n I p z0 0 → mFL I0 I 0 0 → mLQ I J ls (pLine c p) none xG1 i J → pText c n (f + 1) p ls = R → WP 48 (1000000, 0, 0) none M_X12_readText (mTQ I0 J R) 31 [some (.ref 57), some (.int 0), none] [] xG1 i J := by
  intro f
  induction f with
  | zero =>
    intro p ls z0 I i h1 h2 h3 hT
    have := hT.2.2.2.2.2.2.1
    have := hT.2.1
    omega
  | succ f ih =>
    intro p ls z0 I i h1 h2 h3 hT hF hv hR
    obtain ⟨t1, t2, t3, t4, t5, t6, t7, t8, t9, t10⟩ := id hT
    have g := pLine_ok t3 t7
    have eP : pText c n (f + 1 + 1) p ls = if (pLine c p).1 = true then (if c (pLine c p).2.1 = 59 then pText c n (f + 1) ((pLine c p).2.1 + 1) (ls ++ [(pLine c p).2.2]) else if (pLine c p).2.1 < n then (false, (pLine c p).2.1, []) else (true, (pLine c p).2.1, ls ++ [(pLine c p).2.2])) else (false, (pLine c p).2.1, []) := rfl
    rw [eP] at hR
    generalize pLine c p = S at *
    obtain ⟨g1, g2, g3⟩ := g
    obtain ⟨-, -, -, f1, f2, f3⟩ := hv
    have hF1 : mFL I0 i 0 0 := hF.tr f1 (Nat.zero_le _) (Nat.zero_le _)
    rcases f3 with ⟨hS1, f4, f5, f6⟩ | ⟨hS1, f4⟩
    · rw [if_pos hS1] at hR
      obtain ⟨g3, g4, g5, g6, g7⟩ := g3 hS1
      have hTi : TpM c l n i S.2.1 (lwModel (ls ++ [S.2.2])).length 0 := hT.frL f1 f2 g2 f4 f5 f6.1
      have lB : (lwModel (ls ++ [S.2.2])).length + (ls ++ [S.2.2]).length ≤ S.2.1 + 1 := by
        rw [lwM_app]
        simp only [List.length_append, List.length_cons, List.length_nil]
        omega
      by_cases q : c S.2.1 = 59
      · rw [if_pos q] at hR
        have hq1 : S.2.1 < n := byT_lt t3 (fun w => by rw [w] at q; revert q; decide)
        have ep : nI S.2.1 + 1 = nI (S.2.1 + 1) := nI_1 _
        have fb : mFL i (xu i 57 18 (nI (S.2.1 + 1))) 0 0 := mFL.rf.up57 (by decide)
        have hTb : TpM c l n (xu i 57 18 (nI (S.2.1 + 1))) (S.2.1 + 1) (lwModel (ls ++ [S.2.2])).length 0 := hTi.frL fb xu_eq (by omega) (by rw [xu_col (by decide)]; exact f4) (by rw [xu_col (by decide)]; exact f5) (by rw [xu_col (by decide)]; exact f6.1)
        have hLb : lnM (xu i 57 18 (nI (S.2.1 + 1))) (ls ++ [S.2.2]) := by
          obtain ⟨a1, a2, a3, a4⟩ := f6
          refine ⟨by rw [xu_col (by decide)]; exact a1, a2.fr (fun k _ => ⟨xu_row (by decide), xu_row (by decide)⟩), by rw [xu_row (by decide)]; exact a3, fun j l hl => ?_⟩
          rw [xu_row (by decide), xu_row (by decide)]
          exact a4 j l hl
        have lle : (ls ++ [S.2.2]).length = ls.length + 1 := by simp
        have sp := s_X12_line (J := J) hlN hTb hLb lB (by omega)
        refine iX12_readText_31 (iX12_readText_32 ?_)
        rw [f4]
        refine iX12_readText_35 (fun h35 => absurd h35 ((by decide : ¬ (0 : Int32) ≤ -1))) (fun h35 => ?_)
        refine iX12_readText_38 (iX12_readText_39 (s_X12_look hlN hTi) (hdd := by omega) (iX12_readText_42 (iX12_readText_44 (fun h44 => absurd h44 (fun w => w ((t4.eq S.2.1 (by decide) (by decide)).mpr q))) (fun h44 => ?_))))
        refine iX12_readText_47 (iX12_readText_48 (iX12_readText_49 ?_))
        rw [f2]
        refine iX12_readText_52 (iX12_readText_53 ?_)
        rw [ep]
        refine iX12_readText_54 (iX12_readText_57 (jX12_readText_58 sp (hdd := by omega) (fun r58 g58 I58 J58 hq => ?_)))
        have hq2 := hq
        obtain ⟨rfl, rfl, rfl, -⟩ := hq
        refine iX12_readText_61 ?_
        exact ih (S.2.1 + 1) (ls ++ [S.2.2]) _ _ _ (by omega) lB (by omega) hTb (hF1.tr fb (Nat.le_refl _) (Nat.le_refl _)) hq2 hR
      · rw [if_neg q] at hR
        have n44 : ¬ l S.2.1 = 59 := fun w => q ((t4.eq S.2.1 (by decide) (by decide)).mp w)
        have i17 : i 57 17 = nI n := hTi.1
        by_cases q2 : S.2.1 < n
        · rw [if_pos q2] at hR
          subst hR
          refine iX12_readText_31 (iX12_readText_32 ?_)
          rw [f4]
          refine iX12_readText_35 (fun h35 => absurd h35 ((by decide : ¬ (0 : Int32) ≤ -1))) (fun h35 => ?_)
          refine iX12_readText_38 (iX12_readText_39 (s_X12_look hlN hTi) (hdd := by omega) (iX12_readText_42 (iX12_readText_44 (fun h44 => ?_) (fun h44 => by first | exact absurd (n44) h44 | exact absurd h44 (n44)))))
          refine iX12_readText_64 (iX12_readText_65 ?_)
          rw [f4]
          refine iX12_readText_68 (fun h68 => absurd h68 ((by decide : ¬ (0 : Int32) ≤ -1))) (fun h68 => ?_)
          refine iX12_readText_71 (iX12_readText_72 (iX12_readText_75 (iX12_readText_76 ?_)))
          rw [f2, i17]
          refine iX12_readText_79 (fun h79 => absurd h79 (nI_ge q2 (by omega))) (fun h79 => ?_)
          refine iX12_readText_82 (iX12_readText_83 (s_X12_wrong f2 f4) (hdd := by omega) ?_)
          exact K _ (hF1.up57 (by decide)) (Or.inr ⟨rfl, xu_eq⟩)
        · rw [if_neg q2] at hR
          subst hR
          refine iX12_readText_31 (iX12_readText_32 ?_)
          rw [f4]
          refine iX12_readText_35 (fun h35 => absurd h35 ((by decide : ¬ (0 : Int32) ≤ -1))) (fun h35 => ?_)
          refine iX12_readText_38 (iX12_readText_39 (s_X12_look hlN hTi) (hdd := by omega) (iX12_readText_42 (iX12_readText_44 (fun h44 => ?_) (fun h44 => by first | exact absurd (n44) h44 | exact absurd h44 (n44)))))
          refine iX12_readText_64 (iX12_readText_65 ?_)
          rw [f4]
          refine iX12_readText_68 (fun h68 => absurd h68 ((by decide : ¬ (0 : Int32) ≤ -1))) (fun h68 => ?_)
          refine iX12_readText_71 (iX12_readText_72 (iX12_readText_75 (iX12_readText_76 ?_)))
          rw [f2, i17]
          refine iX12_readText_79 (fun h79 => ?_) (fun h79 => by first | exact absurd (nI_le (a := n) (b := S.2.1) (by omega) (by omega)) h79 | exact absurd h79 (nI_le (a := n) (b := S.2.1) (by omega) (by omega)))
          exact K _ hF1 (Or.inl ⟨rfl, f4, f6⟩)
    · rw [if_neg (by rw [hS1]; decide)] at hR
      subst hR
      refine iX12_readText_31 (iX12_readText_32 ?_)
      rw [f4]
      refine iX12_readText_35 (fun h35 => ?_) (fun h35 => by first | exact absurd (nI_pos' (by omega)) h35 | exact absurd h35 (nI_pos' (by omega)))
      refine iX12_readText_64 (iX12_readText_65 ?_)
      rw [f4]
      refine iX12_readText_68 (fun h68 => ?_) (fun h68 => by first | exact absurd (nI_pos' (by omega)) h68 | exact absurd h68 (nI_pos' (by omega)))
      exact K _ hF1 (Or.inr ⟨rfl, f4⟩)
/-- the second copy: where the lines end -/
theorem m_copy2 {R : xP} {I : xI} {ls : lwT} (hl : ls.length ≤ 61) (h130 : (lwModel ls).length ≤ 130) (h720 : I 72 0 = nI ls.length) (hs : ∀ (j : Nat) (l : List Int32 × List Int32), ls[j]? = some l → I 73 (61 + j) = nI (lwStart ls j + l.1.length) ∧ I 74 (61 + j) = nI (lwStart ls j + l.1.length + l.2.length)) (K : ∀ i : xI, (∀ b : Nat, b ∉ [73, 74] → i b = I b) → (∀ (j : Nat) (l : List Int32 × List Int32), ls[j]? = some l → i 73 j = nI (lwStart ls j + l.1.length) ∧ i 74 j = nI (lwStart ls j + l.1.length + l.2.length)) → R (some (.int (-1))) xG1 i J) : ∀ (f k : Nat) (i : xI), k + f = ls.length → (∀ b : Nat, b ∉ [73, 74] → i b = I b) → (∀ j, 61 ≤ j → i 73 j = I 73 j ∧ i 74 j = I 74 j) → (∀ (j : Nat) (l : List Int32 × List Int32), j < k → ls[j]? = some l → i 73 j = nI (lwStart ls j + l.1.length) ∧ i 74 j = nI (lwStart ls j + l.1.length + l.2.length)) → WP 48 (1000000, 0, 0) none M_X12_readText R 177 [some (.ref 57), some (.int 0), some (.int (nI k))] [] xG1 i J := by
  intro f
  have c0 : Int32.toNatClampNeg 0 = 0 := rfl
  induction f with
  | zero =>
    intro k i hk h1 h2 h3
    have i720 : i 72 0 = nI ls.length := by rw [h1 72 (by decide)]; exact h720
    refine iX12_readText_177 (iX12_readText_178 (iX12_readText_179 (iX12_readText_182 (iX12_readText_183 (vin 2 (by decide) (by grind) (by grind)) ?_))))
    rw [c0, i720]
    refine iX12_readText_184 (fun h184 => ?_) (fun h184 => by first | exact absurd (nI_le (a := ls.length) (b := k) (by omega) (by omega)) h184 | exact absurd h184 (nI_le (a := ls.length) (b := k) (by omega) (by omega)))
    refine iX12_readText_233 (iX12_readText_234 ?_)
    exact K i h1 (fun j l hl => h3 j l (by have := (List.getElem?_eq_some_iff.mp hl).1; omega) hl)
  | succ f ih =>
    intro k i hk h1 h2 h3
    have i720 : i 72 0 = nI ls.length := by rw [h1 72 (by decide)]; exact h720
    have hkl : k < ls.length := by omega
    have hg : ls[k]? = some ls[k] := List.getElem?_eq_getElem hkl
    obtain ⟨s1, s2⟩ := hs k _ hg
    have s3 := lwS_le hg
    rw [← (h2 (61 + k) (by omega)).1] at s1
    rw [← (h2 (61 + k) (by omega)).2] at s2
    generalize ls[k] = L at *
    have e0 : (61 : Int32) * 0 + nI k = nI k := by rw [show (61 : Int32) * 0 = 0 by decide, Int32.zero_add]
    have e61 : (61 : Int32) + nI k = nI (61 + k) := nI_add 61 _
    have ek : nI k + (1) = nI (k + 1) := nI_1 _
    have b1 : lwStart ls k + L.1.length < 200 := by omega
    have b2 : lwStart ls k + L.1.length + L.2.length < 200 := by omega
    refine iX12_readText_177 (iX12_readText_178 (iX12_readText_179 (iX12_readText_182 (iX12_readText_183 (vin 2 (by decide) (by grind) (by grind)) ?_))))
    rw [c0, i720]
    refine iX12_readText_184 (fun h184 => absurd h184 (nI_ge hkl (by omega))) (fun h184 => ?_)
    refine iX12_readText_187 (iX12_readText_188 (iX12_readText_191 (iX12_readText_193 (iX12_readText_194 (iX12_readText_195 (iX12_readText_196 ?_))))))
    rw [e0]
    refine iX12_readText_197 (iX12_readText_198 (iX12_readText_201 (iX12_readText_203 (iX12_readText_204 ?_))))
    rw [e61]
    refine iX12_readText_205 (vp_in_nI (by omega) (by omega)) ?_
    rw [nI_clamp (by omega), s1]
    refine iX12_readText_206 (vp_in_nI (by omega) (by omega)) ?_
    rw [nI_clamp (by omega), nar_s b1]
    refine iX12_readText_207 (iX12_readText_208 (iX12_readText_211 (iX12_readText_213 (iX12_readText_214 (iX12_readText_215 (iX12_readText_216 ?_))))))
    rw [e0]
    refine iX12_readText_217 (iX12_readText_218 (iX12_readText_221 (iX12_readText_223 (iX12_readText_224 ?_))))
    rw [e61]
    refine iX12_readText_225 (vp_in_nI (by omega) (by omega)) ?_
    rw [nI_clamp (by omega), xu_row (by decide), s2]
    refine iX12_readText_226 (vp_in_nI (by omega) (by omega)) ?_
    rw [nI_clamp (by omega), nar_s b2]
    refine iX12_readText_227 (iX12_readText_230 ?_)
    rw [ek]
    refine ih (k + 1) _ (by omega) (fun b hb => ?_) (fun j hj => ⟨?_, ?_⟩) (fun j l hj hl => ?_)
    · rw [xu_rowf (fun q => hb (by rw [q]; decide)), xu_rowf (fun q => hb (by rw [q]; decide))]
      exact h1 b hb
    · rw [xu_row (by decide), xu_col (by omega)]
      exact (h2 j hj).1
    · rw [xu_col (by omega), xu_row (by decide)]
      exact (h2 j hj).2
    · by_cases q : j = k
      · subst q
        rw [hg] at hl
        cases hl
        rw [xu_row (by decide), xu_eq, xu_eq]
        exact ⟨rfl, rfl⟩
      · rw [xu_row (by decide), xu_col q, xu_col q, xu_row (by decide)]
        exact h3 j l (by omega) hl
/-- the first copy: the signs -/
theorem m_copy1 {R : xP} {I : xI} {ls : lwT} (hl : ls.length ≤ 61) (h130 : (lwModel ls).length ≤ 130) (hok : ∀ t ∈ lwModel ls, tokOk t) (hL : lnM I ls) (K : ∀ i : xI, (∀ b : Nat, b ∉ [70, 71] → i b = I b) → stM i 0 (lwModel ls) → WP 48 (1000000, 0, 0) none M_X12_readText R 163 [some (.ref 57), some (.int 0), some (.int (nI (lwModel ls).length))] [] xG1 i J) : ∀ (f k : Nat) (i : xI), k + f = (lwModel ls).length → (∀ b : Nat, b ∉ [70, 71] → i b = I b) → (∀ j, 130 ≤ j → i 70 j = I 70 j ∧ i 71 j = I 71 j) → (∀ (j : Nat) (t : Int32), j < k → (lwModel ls)[j]? = some t → i 70 j = mAct t ∧ i 71 j = mWith t) → WP 48 (1000000, 0, 0) none M_X12_readText R 105 [some (.ref 57), some (.int 0), some (.int (nI k))] [] xG1 i J := by
  intro f
  obtain ⟨l1, l2, l3, l4⟩ := hL
  induction f with
  | zero =>
    intro k i hk h1 h2 h3
    obtain rfl : k = (lwModel ls).length := by omega
    have i21 : i 57 21 = nI (lwModel ls).length := by rw [h1 57 (by decide)]; exact l1
    refine iX12_readText_105 (iX12_readText_106 (iX12_readText_107 ?_))
    rw [i21]
    refine iX12_readText_110 (fun h110 => ?_) (fun h110 => by first | exact absurd (Int32.le_refl _) h110 | exact absurd h110 (Int32.le_refl _))
    exact K i h1 (fun j t hj => by rw [Nat.zero_add]; exact h3 j t (List.getElem?_eq_some_iff.mp hj).1 hj)
  | succ f ih =>
    intro k i hk h1 h2 h3
    have i21 : i 57 21 = nI (lwModel ls).length := by rw [h1 57 (by decide)]; exact l1
    have hkl : k < (lwModel ls).length := by omega
    have hg : (lwModel ls)[k]? = some (lwModel ls)[k] := List.getElem?_eq_getElem hkl
    obtain ⟨s1, s2⟩ := l2 k _ hg
    have s3 := hok _ (List.getElem_mem hkl)
    rw [← (h2 (130 + k) (by omega)).1] at s1
    rw [← (h2 (130 + k) (by omega)).2] at s2
    generalize (lwModel ls)[k] = T at *
    have e0 : (130 : Int32) * 0 + nI k = nI k := by rw [show (130 : Int32) * 0 = 0 by decide, Int32.zero_add]
    have e130 : (130 : Int32) + nI k = nI (130 + k) := nI_add 130 _
    have ek : nI k + (1) = nI (k + 1) := nI_1 _
    refine iX12_readText_105 (iX12_readText_106 (iX12_readText_107 ?_))
    rw [i21]
    refine iX12_readText_110 (fun h110 => absurd h110 (nI_ge hkl (by omega))) (fun h110 => ?_)
    refine iX12_readText_113 (iX12_readText_114 (iX12_readText_117 (iX12_readText_120 (iX12_readText_121 (iX12_readText_122 (iX12_readText_123 ?_))))))
    rw [e0]
    refine iX12_readText_124 (iX12_readText_125 (iX12_readText_128 (iX12_readText_131 (iX12_readText_132 ?_))))
    rw [e130]
    refine iX12_readText_133 (vp_in_nI (by omega) (by omega)) ?_
    rw [nI_clamp (by omega), s1]
    refine iX12_readText_134 (vp_in_nI (by omega) (by omega)) ?_
    rw [nI_clamp (by omega), nar_act s3]
    refine iX12_readText_135 (iX12_readText_136 (iX12_readText_139 (iX12_readText_142 (iX12_readText_143 (iX12_readText_144 (iX12_readText_145 ?_))))))
    rw [e0]
    refine iX12_readText_146 (iX12_readText_147 (iX12_readText_150 (iX12_readText_153 (iX12_readText_154 ?_))))
    rw [e130]
    refine iX12_readText_155 (vp_in_nI (by omega) (by omega)) ?_
    rw [nI_clamp (by omega), xu_row (by decide), s2]
    refine iX12_readText_156 (vp_in_nI (by omega) (by omega)) ?_
    rw [nI_clamp (by omega)]
    refine iX12_readText_157 (iX12_readText_160 ?_)
    rw [ek]
    refine ih (k + 1) _ (by omega) (fun b hb => ?_) (fun j hj => ⟨?_, ?_⟩) (fun j l hj hl => ?_)
    · rw [xu_rowf (fun q => hb (by rw [q]; decide)), xu_rowf (fun q => hb (by rw [q]; decide))]
      exact h1 b hb
    · rw [xu_row (by decide), xu_col (by omega)]
      exact (h2 j hj).1
    · rw [xu_col (by omega), xu_row (by decide)]
      exact (h2 j hj).2
    · by_cases q : j = k
      · subst q
        rw [hg] at hl
        cases hl
        rw [xu_row (by decide), xu_eq, xu_eq]
        exact ⟨rfl, rfl⟩
      · rw [xu_row (by decide), xu_col q, xu_col q, xu_row (by decide)]
        exact h3 j l (by omega) hl
theorem s_X12_readText (hlN : byT l n) {I : xI} (t1 : I 57 17 = nI n) (t2 : n ≤ 120) (t3 : byT c n) (t4 : lRel c l) (t5 : ∀ q, q < n → I 69 q = l q) : Spec 48 (1000000, 0, 0) M_X12_readText [.ref 57, .int 0] xG1 I J (mTQ I J (pText c n 100 0 [])) := by
  have ok := pText_ok t3 100 0 [] (Nat.zero_le _) (Nat.le_refl _) (Nat.le_refl _) (Nat.le_refl _) (fun l hl => by cases hl)
  have c0 : Int32.toNatClampNeg 0 = 0 := rfl
  have c1 : Int32.toNatClampNeg 1 = 1 := rfl
  refine spec_of (L := [some (.ref 57), some (.int 0), none]) (by decide) (Nat.le_of_ble_eq_true rfl) rfl ?_
  generalize hR : pText c n 100 0 [] = R at *
  obtain ⟨ok1, ok2⟩ := ok
  have K : ∀ i : xI, mFL I i 0 0 → (R.1 = true ∧ i 57 19 = -1 ∧ lnM i R.2.2 ∨ R.1 = false ∧ i 57 19 = nI R.2.1) → WP 48 (1000000, 0, 0) none M_X12_readText (mTQ I J R) 86 [some (.ref 57), some (.int 0), none] [] xG1 i J := by
    intro i hF hd
    obtain ⟨F1, F2, F3, F4, F5⟩ := id hF
    rcases hd with ⟨d1, d2, d3⟩ | ⟨d1, d2⟩
    · obtain ⟨ne, oks, len1, len2, len3⟩ := ok2 d1
      have d3' : lnM (xu i 57 17 0) R.2.2 := by
        obtain ⟨a1, a2, a3, a4⟩ := d3
        refine ⟨by rw [xu_col (by decide)]; exact a1, a2.fr (fun k _ => ⟨xu_row (by decide), xu_row (by decide)⟩), by rw [xu_row (by decide)]; exact a3, fun j l hl => ?_⟩
        rw [xu_row (by decide), xu_row (by decide)]
        exact a4 j l hl
      have fr17 : ∀ b : Nat, b ∉ [57, 70, 71, 72, 73, 74] → xu i 57 17 0 b = I b := fun b hb => by
        rw [xu_rowf (fun q => hb (by rw [q]; decide))]
        exact F1 b hb
      have fc17 : ∀ k : Nat, k ∉ [17, 18, 19, 20, 21] → xu i 57 17 0 57 k = I 57 k := fun k hk => by
        rw [xu_col (fun q => hk (by rw [q]; decide))]
        exact F2 k (fun w => hk (List.mem_cons_of_mem _ w))
      have e17 : xu i 57 17 0 57 17 = 0 := xu_eq
      have e19 : xu i 57 17 0 57 19 = -1 := by rw [xu_col (by decide)]; exact d2
      have l61 : R.2.2.length ≤ 61 := by omega
      have at103 : WP 48 (1000000, 0, 0) none M_X12_readText (mTQ I J R) 103 [some (.ref 57), some (.int 0), none] [] xG1 (xu i 57 17 0) J := by
        generalize xu i 57 17 0 = I1 at *
        have fin : ∀ i2 : xI, (∀ b : Nat, b ∉ [70, 71] → i2 b = I1 b) → stM i2 0 (lwModel R.2.2) → WP 48 (1000000, 0, 0) none M_X12_readText (mTQ I J R) 163 [some (.ref 57), some (.int 0), some (.int (nI (lwModel R.2.2).length))] [] xG1 i2 J := by
          intro i2 b1 b2
          have i721 : i2 72 1 = nI R.2.2.length := by rw [b1 72 (by decide)]; exact d3'.2.2.1
          have cp := m_copy2 (J := J) (R := mTQ I J R) (I := xu i2 72 0 (nI R.2.2.length)) l61 (by omega) xu_eq (fun j l hl => by
            rw [xu_row (by decide), xu_row (by decide), b1 73 (by decide), b1 74 (by decide)]
            exact d3'.2.2.2 j l hl) (fun i3 k1 k2 => ?_) R.2.2.length 0 _ (Nat.zero_add _) (fun _ _ => rfl) (fun _ _ => ⟨rfl, rfl⟩) (fun j l hj => absurd hj (Nat.not_lt_zero j))
          · refine iX12_readText_163 (iX12_readText_164 (iX12_readText_167 (iX12_readText_168 (iX12_readText_169 (iX12_readText_172 (iX12_readText_173 (vin 2 (by decide) (by grind) (by grind)) ?_))))))
            rw [c1, i721]
            refine iX12_readText_174 (vin 2 (by decide) (by grind) (by grind)) ?_
            rw [c0]
            refine iX12_readText_175 (iX12_readText_176 ?_)
            exact cp
          · have r1 : ∀ b : Nat, b ∉ [70, 71, 72, 73, 74] → i3 b = I1 b := fun b hb => by
              rw [k1 b (fun w => hb (by simp at w ⊢; omega)), xu_rowf (fun q => hb (by rw [q]; decide))]
              exact b1 b (fun w => hb (by simp at w ⊢; omega))
            refine ⟨rfl, rfl, fun b hb => ?_, fun k hk => ?_, ?_, Or.inl ⟨d1, rfl, b2.fr (fun k _ => ?_), ?_, k2⟩⟩
            · rw [r1 b (fun w => hb (List.mem_cons_of_mem _ w))]
              exact fr17 b hb
            · rw [r1 57 (by decide)]
              exact fc17 k hk
            · rw [r1 57 (by decide)]
              exact e17
            · rw [k1 70 (by decide), k1 71 (by decide), xu_row (by decide), xu_row (by decide)]
              exact ⟨rfl, rfl⟩
            · rw [k1 72 (by decide), xu_eq]
        refine iX12_readText_103 (iX12_readText_104 ?_)
        exact m_copy1 l61 (by omega) (fun t ht => lwM_tok oks ht) d3' fin (lwModel R.2.2).length 0 I1 (Nat.zero_add _) (fun _ _ => rfl) (fun _ _ => ⟨rfl, rfl⟩) (fun j l hj => absurd hj (Nat.not_lt_zero j))
      refine iX12_readText_86 (iX12_readText_87 (iX12_readText_88 (iX12_readText_91 (iX12_readText_92 ?_))))
      rw [e19]
      refine iX12_readText_95 (fun h95 => ?_) (fun h95 => by first | exact absurd ((by decide : (-1 : Int32) < 0)) h95 | exact absurd h95 ((by decide : (-1 : Int32) < 0)))
      exact at103
    · refine iX12_readText_86 (iX12_readText_87 (iX12_readText_88 (iX12_readText_91 (iX12_readText_92 ?_))))
      rw [xu_col (by decide), d2]
      refine iX12_readText_95 (fun h95 => absurd h95 (Int32.not_lt.mpr (nI_pos' (by omega)))) (fun h95 => ?_)
      refine iX12_readText_98 (iX12_readText_99 ?_)
      rw [xu_col (by decide), d2]
      refine iX12_readText_102 ?_
      refine ⟨rfl, rfl, fun b hb => ?_, fun k hk => ?_, xu_eq, Or.inr ⟨d1, rfl, fun k hk => ?_, ?_, fun k hk => ?_⟩⟩
      · rw [xu_rowf (fun q => hb (by rw [q]; decide))]
        exact F1 b hb
      · rw [xu_col (fun q => hk (by rw [q]; decide))]
        exact F2 k (fun w => hk (List.mem_cons_of_mem _ w))
      · rw [xu_row (by decide), xu_row (by decide)]
        exact F3 k hk
      · rw [xu_row (by decide)]
        exact F4
      · rw [xu_row (by decide), xu_row (by decide)]
        exact F5 k hk
  have z0 : (0 : Int32) = nI 0 := rfl
  have fz : mFL I (xu (xu (xu (xu (xu I 57 18 0) 57 19 (-1)) 57 20 0) 57 21 0) 72 1 0) 0 0 := ((((mFL.rf.up57 (by decide)).up57 (by decide)).up57 (by decide)).up57 (by decide)).up1 (Or.inr ⟨rfl, rfl⟩)
  have y18 : xu (xu (xu (xu (xu I 57 18 0) 57 19 (-1)) 57 20 0) 57 21 0) 72 1 0 57 18 = nI 0 := by rw [xu_row (by decide), xu_col (by decide), xu_col (by decide), xu_col (by decide), xu_eq]; rfl
  have y19 : xu (xu (xu (xu (xu I 57 18 0) 57 19 (-1)) 57 20 0) 57 21 0) 72 1 0 57 19 = -1 := by rw [xu_row (by decide), xu_col (by decide), xu_col (by decide), xu_eq]
  have y20 : xu (xu (xu (xu (xu I 57 18 0) 57 19 (-1)) 57 20 0) 57 21 0) 72 1 0 57 20 = nI 0 := by rw [xu_row (by decide), xu_col (by decide), xu_eq]; rfl
  have y21 : xu (xu (xu (xu (xu I 57 18 0) 57 19 (-1)) 57 20 0) 57 21 0) 72 1 0 57 21 = nI 0 := by rw [xu_row (by decide), xu_eq]; rfl
  have y72 : xu (xu (xu (xu (xu I 57 18 0) 57 19 (-1)) 57 20 0) 57 21 0) 72 1 0 72 1 = nI 0 := xu_eq
  have at27 : WP 48 (1000000, 0, 0) none M_X12_readText (mTQ I J R) 27 [some (.ref 57), some (.int 0), none] [] xG1 (xu (xu (xu (xu (xu I 57 18 0) 57 19 (-1)) 57 20 0) 57 21 0) 72 1 0) J := by
    generalize xu (xu (xu (xu (xu I 57 18 0) 57 19 (-1)) 57 20 0) 57 21 0) 72 1 0 = Z at *
    have hTz : TpM c l n Z 0 0 0 := ⟨(fz.2.1 17 (by decide)).trans t1, t2, t3, t4, fun q hq => by rw [fz.1 69 (by decide)]; exact t5 q hq, y18, Nat.zero_le _, y19, y20, y21⟩
    have hLz : lnM Z [] := ⟨y21, fun k t hk => by simp [lwModel] at hk, y72, fun j l hl => by simp at hl⟩
    have sp := s_X12_line (J := J) (ls := []) hlN hTz hLz (Nat.le_refl _) (Nat.zero_le _)
    refine iX12_readText_27 (jX12_readText_28 sp (hdd := by omega) (fun r28 g28 I28 J28 hq => ?_))
    have hq2 := hq
    obtain ⟨rfl, rfl, rfl, -⟩ := hq
    exact m_row_by_row hlN K 99 0 [] 0 Z _ rfl (Nat.le_refl _) (Nat.le_refl _) hTz fz hq2 hR
  refine iX12_readText_0 (iX12_readText_1 (iX12_readText_2 (iX12_readText_5 (iX12_readText_6 (iX12_readText_7 (iX12_readText_10 (iX12_readText_11 (iX12_readText_12 (iX12_readText_15 (iX12_readText_16 (iX12_readText_17 (iX12_readText_20 (iX12_readText_21 (iX12_readText_24 (iX12_readText_25 (iX12_readText_26 (vin 2 (by decide) (by grind) (by grind)) ?_))))))))))))))))
  rw [c1]
  exact at27
def mLawQ (I : xI) (J : xJ) (r : Bool × Nat × lwT) : xP := fun v g i j => g = xG1 ∧ j = J ∧ (∀ b : Nat, b ∉ [57, 70, 71, 72, 73, 74] → i b = I b) ∧ (∀ k : Nat, k ∉ [17, 18, 19, 20, 21, 29] → i 57 k = I 57 k) ∧ i 57 17 = 0 ∧ ((r.1 = true ∧ v = some (.int 1) ∧ i 57 29 = 1 ∧ stM i 0 (lwModel r.2.2) ∧ i 72 0 = nI r.2.2.length ∧ ∀ (j : Nat) (l : List Int32 × List Int32), r.2.2[j]? = some l → i 73 j = nI (lwStart r.2.2 j + l.1.length) ∧ i 74 j = nI (lwStart r.2.2 j + l.1.length + l.2.length)) ∨ (r.1 = false ∧ v = some (.int (-100 - nI r.2.1)) ∧ i 57 29 = I 57 29 ∧ (∀ k, k < 130 → i 70 k = I 70 k ∧ i 71 k = I 71 k) ∧ i 72 0 = I 72 0 ∧ ∀ k, k < 61 → i 73 k = I 73 k ∧ i 74 k = I 74 k))
theorem s_X12_law (hlN : byT l n) {I : xI} (t1 : I 57 17 = nI n) (t2 : n ≤ 120) (t3 : byT c n) (t4 : lRel c l) (t5 : ∀ q, q < n → I 69 q = l q) : Spec 1000 (1000000, 0, 0) M_X12_law [.ref 57] xG1 I J (mLawQ I J (pText c n 100 0 [])) := by
  have ok := pText_ok t3 100 0 [] (Nat.zero_le _) (Nat.le_refl _) (Nat.le_refl _) (Nat.le_refl _) (fun l hl => by cases hl)
  have sp := s_X12_readText (J := J) hlN t1 t2 t3 t4 t5
  refine spec_of (L := [some (.ref 57), none]) (by decide) (Nat.le_of_ble_eq_true rfl) rfl ?_
  generalize pText c n 100 0 [] = R at *
  have fin : ∀ (i : xI) (v : Option Value), mTQ I J R v xG1 i J → WP 1000 (1000000, 0, 0) none M_X12_law (mLawQ I J R) 5 [some (.ref 57), none] (v.toList ++ []) xG1 i J := by
    intro i v hv
    obtain ⟨-, -, a1, a2, a3, a4⟩ := hv
    rcases a4 with ⟨d1, rfl, d3, d4, d5⟩ | ⟨d1, rfl, d3, d4, d5⟩
    · refine iX12_law_5 (iX12_law_6 (iX12_law_7 (fun h7 => ?_) (fun h7 => by first | exact absurd ((by decide : (-1 : Int32) < 0)) h7 | exact absurd h7 ((by decide : (-1 : Int32) < 0)))))
      refine iX12_law_15 (iX12_law_16 (iX12_law_17 (iX12_law_20 (iX12_law_21 ?_))))
      refine ⟨rfl, rfl, fun b hb => ?_, fun k hk => ?_, ?_, Or.inl ⟨d1, rfl, xu_eq, d3.fr (fun k _ => ?_), ?_, fun j l hl => ?_⟩⟩
      · rw [xu_rowf (fun q => hb (by rw [q]; decide))]
        exact a1 b hb
      · rw [xu_col (fun q => hk (by rw [q]; decide))]
        exact a2 k (fun w => hk (by simp at w ⊢; omega))
      · rw [xu_col (by decide)]
        exact a3
      · rw [xu_row (by decide), xu_row (by decide)]
        exact ⟨rfl, rfl⟩
      · rw [xu_row (by decide)]
        exact d4
      · rw [xu_row (by decide), xu_row (by decide)]
        exact d5 j l hl
    · refine iX12_law_5 (iX12_law_6 (iX12_law_7 (fun h7 => absurd h7 (Int32.not_lt.mpr (nI_pos' (by omega)))) (fun h7 => ?_)))
      refine iX12_law_10 (iX12_law_12 (iX12_law_13 (iX12_law_14 ?_)))
      exact ⟨rfl, rfl, a1, fun k hk => a2 k (fun w => hk (by simp at w ⊢; omega)), a3, Or.inr ⟨d1, rfl, a2 29 (by decide), d3, d4, d5⟩⟩
  refine iX12_law_0 (iX12_law_1 (jX12_law_2 sp (hdd := by omega) (fun r2 g2 I2 J2 hq => ?_)))
  have hq2 := hq
  obtain ⟨rfl, rfl, -⟩ := hq
  exact fin _ _ hq2
end
