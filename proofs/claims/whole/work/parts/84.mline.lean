/-! ===== the reference's lines ===== -/
theorem pText_ok {c : Nat → Int32} {n : Nat} (h : byT c n) : ∀ (f p : Nat) (ls : lwT), p ≤ n → (lwClass ls).length ≤ p → (lwModel ls).length + ls.length ≤ p → 2 * ls.length ≤ p → (∀ l ∈ ls, (l.1 = [] ∨ okE l.1) ∧ okE l.2) → (pText c n f p ls).2.1 ≤ n ∧ ((pText c n f p ls).1 = true → (pText c n f p ls).2.2 ≠ [] ∧ (∀ l ∈ (pText c n f p ls).2.2, (l.1 = [] ∨ okE l.1) ∧ okE l.2) ∧ (lwClass (pText c n f p ls).2.2).length ≤ n + 1 ∧ (lwModel (pText c n f p ls).2.2).length + (pText c n f p ls).2.2.length ≤ n + 1 ∧ 2 * (pText c n f p ls).2.2.length ≤ n + 1)
  | 0, p, ls, hp, h1, h2, h2', h3 => ⟨hp, fun z => by cases z⟩
  | f + 1, p, ls, hp, h1, h2, h2', h3 => by
    have g := pLine_ok h hp
    have eP : pText c n (f + 1) p ls = if (pLine c p).1 = true then (if c (pLine c p).2.1 = 59 then pText c n f ((pLine c p).2.1 + 1) (ls ++ [(pLine c p).2.2]) else if (pLine c p).2.1 < n then (false, (pLine c p).2.1, []) else (true, (pLine c p).2.1, ls ++ [(pLine c p).2.2])) else (false, (pLine c p).2.1, []) := rfl
    rw [eP]
    generalize pLine c p = S at *
    obtain ⟨g1, g2, g3⟩ := g
    by_cases q : S.1 = true
    · rw [if_pos q]
      obtain ⟨g3, g4, g5, g6, g7⟩ := g3 q
      have k1 : (lwClass (ls ++ [S.2.2])).length ≤ S.2.1 + 1 := by
        rw [lwC_app]
        simp only [List.length_append, List.length_cons, List.length_nil]
        omega
      have k2 : (lwModel (ls ++ [S.2.2])).length + (ls ++ [S.2.2]).length ≤ S.2.1 + 1 := by
        unfold lwModel at h2 ⊢
        rw [List.flatMap_append]
        simp only [List.length_append, List.length_cons, List.length_nil, List.flatMap_cons, List.flatMap_nil, List.append_nil]
        omega
      have k4 : 2 * (ls ++ [S.2.2]).length ≤ S.2.1 + 1 := by
        simp only [List.length_append, List.length_cons, List.length_nil]
        omega
      have k3 : ∀ l ∈ ls ++ [S.2.2], (l.1 = [] ∨ okE l.1) ∧ okE l.2 := by
        intro l hl
        rcases List.mem_append.mp hl with hl | hl
        · exact h3 l hl
        · rw [List.mem_singleton.mp hl]
          exact ⟨g5, g6⟩
      by_cases q2 : c S.2.1 = 59
      · rw [if_pos q2]
        have hq1 : S.2.1 < n := byT_lt h (fun w => by rw [w] at q2; revert q2; decide)
        exact pText_ok h f (S.2.1 + 1) _ (by omega) k1 k2 k4 k3
      · rw [if_neg q2]
        by_cases q3 : S.2.1 < n
        · rw [if_pos q3]
          exact ⟨g2, fun z => by cases z⟩
        · rw [if_neg q3]
          exact ⟨g2, fun _ => ⟨by simp, k3, by simp only; omega, by simp only; omega, by simp only; omega⟩⟩
    · rw [if_neg q]
      exact ⟨g2, fun z => by cases z⟩
theorem lwM_app {ls : lwT} {l : List Int32 × List Int32} : lwModel (ls ++ [l]) = lwModel ls ++ (l.1 ++ l.2) := by
  unfold lwModel
  rw [List.flatMap_append]
  simp
theorem lwS_app {ls : lwT} {l : List Int32 × List Int32} {j : Nat} (h : j ≤ ls.length) : lwStart (ls ++ [l]) j = lwStart ls j := by
  unfold lwStart
  rw [List.take_append_of_le_length h]
theorem lwS_all {ls : lwT} : lwStart ls ls.length = (lwModel ls).length := by
  unfold lwStart
  rw [List.take_length]
theorem lwS_le {ls : lwT} {j : Nat} {l : List Int32 × List Int32} (h : ls[j]? = some l) : lwStart ls j + l.1.length + l.2.length ≤ (lwModel ls).length := by
  have hj := (List.getElem?_eq_some_iff.mp h).1
  have e : ls = ls.take j ++ ([l] ++ ls.drop (j + 1)) := by
    have h2 := (List.getElem?_eq_some_iff.mp h).2
    rw [← h2, List.singleton_append, List.getElem_cons_drop, List.take_append_drop]
  have e2 : lwModel ls = lwModel (ls.take j) ++ ((l.1 ++ l.2) ++ lwModel (ls.drop (j + 1))) := by
    conv => lhs; rw [e]
    unfold lwModel
    rw [List.flatMap_append, List.flatMap_append]
    simp
  rw [e2]
  unfold lwStart
  simp only [List.length_append]
  omega
theorem lwM_tok {ls : lwT} (h : ∀ l ∈ ls, (l.1 = [] ∨ okE l.1) ∧ okE l.2) {t : Int32} (ht : t ∈ lwModel ls) : tokOk t := by
  unfold lwModel at ht
  obtain ⟨l, hl, h2⟩ := List.mem_flatMap.mp ht
  obtain ⟨a1, a2⟩ := h l hl
  rcases List.mem_append.mp h2 with h2 | h2
  · rcases a1 with a1 | a1
    · rw [a1] at h2; cases h2
    · exact a1.2 t h2
  · exact a2.2 t h2
theorem nar_act {t : Int32} (h : tokOk t) : vp_nar .byte (mAct t) = mAct t := by
  by_cases q1 : 0 ≤ t
  · simp only [mAct, if_pos q1]; decide
  · by_cases q2 : -6 ≤ t
    · simp only [mAct, if_neg q1, if_pos q2]; decide
    · rcases h with h | h
      · exact absurd h q2
      · revert h q1 q2
        intro q1 q2 h
        simp only [List.mem_cons, List.not_mem_nil, or_false] at h
        rcases h with rfl | rfl | rfl | rfl | rfl | rfl | rfl | rfl | rfl | rfl | rfl | rfl <;> decide
theorem nar_i {m : Nat} (h : m < 200) : (nI m).toInt16.toInt32 = nI m := by
  have : ∀ m : Nat, m < 200 → (nI m).toInt16.toInt32 = nI m := by decide +kernel
  exact this m h
theorem nar_s {m : Nat} (h : m < 200) : vp_nar .short (nI m) = nI m := by
  have : ∀ m : Nat, m < 200 → vp_nar .short (nI m) = nI m := by decide +kernel
  exact this m h
def mFL (I i : xI) (z a : Nat) : Prop := (∀ b : Nat, b ∉ [57, 70, 71, 72, 73, 74] → i b = I b) ∧ (∀ k : Nat, k ∉ [18, 19, 20, 21] → i 57 k = I 57 k) ∧ (∀ k, k < 130 + z → i 70 k = I 70 k ∧ i 71 k = I 71 k) ∧ i 72 0 = I 72 0 ∧ ∀ k, k < 61 + a → i 73 k = I 73 k ∧ i 74 k = I 74 k
theorem mFL.rf {I : xI} {z a : Nat} : mFL I I z a := ⟨fun _ _ => rfl, fun _ _ => rfl, fun _ _ => ⟨rfl, rfl⟩, rfl, fun _ _ => ⟨rfl, rfl⟩⟩
theorem mFL.tr {I i1 i2 : xI} {z a z1 a1 : Nat} (h : mFL I i1 z a) (h2 : mFL i1 i2 z1 a1) (hz : z ≤ z1) (ha : a ≤ a1) : mFL I i2 z a := ⟨fun b hb => (h2.1 b hb).trans (h.1 b hb), fun k hk => (h2.2.1 k hk).trans (h.2.1 k hk), fun k hk => ⟨(h2.2.2.1 k (by omega)).1.trans (h.2.2.1 k hk).1, (h2.2.2.1 k (by omega)).2.trans (h.2.2.1 k hk).2⟩, h2.2.2.2.1.trans h.2.2.2.1, fun k hk => ⟨(h2.2.2.2.2 k (by omega)).1.trans (h.2.2.2.2 k hk).1, (h2.2.2.2.2 k (by omega)).2.trans (h.2.2.2.2 k hk).2⟩⟩
theorem mF.fl {I i : xI} {z : Nat} (h : mF I i z) (a : Nat) : mFL I i z a := ⟨fun b hb => h.1 b (fun q => hb (by simp at q ⊢; omega)), h.2.1, h.2.2, by rw [h.1 72 (by decide)], fun k _ => ⟨by rw [h.1 73 (by decide)], by rw [h.1 74 (by decide)]⟩⟩
theorem mFL.up57 {I i : xI} {z a k : Nat} {v : Int32} (h : mFL I i z a) (hk : k ∈ [18, 19, 20, 21]) : mFL I (xu i 57 k v) z a := h.tr ((mF.rf (z := z)).up57 hk |>.fl a) (Nat.le_refl _) (Nat.le_refl _)
theorem mFL.up1 {I i : xI} {z a b k : Nat} {v : Int32} (h : mFL I i z a) (hb : (b = 73 ∨ b = 74) ∧ 61 + a ≤ k ∨ b = 72 ∧ k = 1) : mFL I (xu i b k v) z a := by
  refine h.tr (z1 := z) (a1 := a) ⟨fun b' hb' => xu_rowf (fun q => ?_), fun k' _ => ?_, fun k' _ => ⟨?_, ?_⟩, ?_, fun k' hk' => ⟨?_, ?_⟩⟩ (Nat.le_refl _) (Nat.le_refl _)
  · rcases hb with ⟨rfl | rfl, -⟩ | ⟨rfl, -⟩ <;> exact hb' (by rw [q]; decide)
  · rcases hb with ⟨rfl | rfl, -⟩ | ⟨rfl, -⟩ <;> exact xu_row (by decide)
  · rcases hb with ⟨rfl | rfl, -⟩ | ⟨rfl, -⟩ <;> exact xu_row (by decide)
  · rcases hb with ⟨rfl | rfl, -⟩ | ⟨rfl, -⟩ <;> exact xu_row (by decide)
  · rcases hb with ⟨rfl | rfl, -⟩ | ⟨rfl, rfl⟩
    · exact xu_row (by decide)
    · exact xu_row (by decide)
    · exact xu_col (by decide)
  · rcases hb with ⟨rfl | rfl, hk⟩ | ⟨rfl, -⟩
    · exact xu_col (by omega)
    · exact xu_row (by decide)
    · exact xu_row (by decide)
  · rcases hb with ⟨rfl | rfl, hk⟩ | ⟨rfl, -⟩
    · exact xu_row (by decide)
    · exact xu_col (by omega)
    · exact xu_row (by decide)
theorem TpM.frL {c l : Nat → Int32} {n : Nat} {I i : xI} {p z o p' z' o' z0 a0 : Nat} (h : TpM c l n I p z o) (f : mFL I i z0 a0) (h18 : i 57 18 = nI p') (hp : p' ≤ n) (h19 : i 57 19 = -1) (h20 : i 57 20 = nI o') (h21 : i 57 21 = nI z') : TpM c l n i p' z' o' := ⟨(f.2.1 17 (by decide)).trans h.1, h.2.1, h.2.2.1, h.2.2.2.1, fun q hq => by rw [f.1 69 (by decide)]; exact h.2.2.2.2.1 q hq, h18, hp, h19, h20, h21⟩
def lnM (i : xI) (ls : lwT) : Prop := i 57 21 = nI (lwModel ls).length ∧ stM i 130 (lwModel ls) ∧ i 72 1 = nI ls.length ∧ ∀ (j : Nat) (l : List Int32 × List Int32), ls[j]? = some l → i 73 (61 + j) = nI (lwStart ls j + l.1.length) ∧ i 74 (61 + j) = nI (lwStart ls j + l.1.length + l.2.length)
def mLQ (I : xI) (J : xJ) (ls : lwT) (r : Bool × Nat × (List Int32 × List Int32)) : xP := fun v g i j => v = none ∧ g = xG1 ∧ j = J ∧ mFL I i (lwModel ls).length ls.length ∧ i 57 18 = nI r.2.1 ∧ ((r.1 = true ∧ i 57 19 = -1 ∧ i 57 20 = nI 0 ∧ lnM i (ls ++ [r.2.2])) ∨ (r.1 = false ∧ i 57 19 = nI r.2.1))
section
variable {J : xJ} {c l : Nat → Int32} {n : Nat}
theorem s_X12_line (hlN : byT l n) {I : xI} {p : Nat} {ls : lwT} (hT : TpM c l n I p (lwModel ls).length 0) (hL : lnM I ls) (hz : (lwModel ls).length + ls.length ≤ p) (hj : ls.length ≤ 60) : Spec 47 (1000000, 0, 0) M_X12_line [.ref 57] xG1 I J (mLQ I J ls (pLine c p)) := by
  obtain ⟨t1, t2, t3, t4, t5, t6, t7, t8, t9, t10⟩ := id hT
  obtain ⟨l1, l2, l3, l4⟩ := id hL
  have c1 : Int32.toNatClampNeg 1 = 1 := rfl
  have e61 : (61 : Int32) + nI ls.length = nI (61 + ls.length) := nI_add 61 _
  have ej : nI ls.length + 1 = nI (ls.length + 1) := nI_1 _
  refine spec_of (L := [some (.ref 57), none]) (by decide) (Nat.le_of_ble_eq_true rfl) rfl ?_
  -- what stands at the end
  have tail : ∀ (r : Bool × Nat × (List Int32 × List Int32)) (i : xI), mFL I i (lwModel ls).length ls.length → i 72 1 = nI ls.length → i 57 18 = nI r.2.1 → ((r.1 = true ∧ i 57 19 = -1 ∧ i 57 20 = nI 0 ∧ i 57 21 = nI ((lwModel ls).length + r.2.2.1.length + r.2.2.2.length) ∧ (lwModel ls).length + r.2.2.1.length + r.2.2.2.length < 200 ∧ stM i (130 + (lwModel ls).length) (r.2.2.1 ++ r.2.2.2) ∧ i 73 (61 + ls.length) = nI ((lwModel ls).length + r.2.2.1.length)) ∨ (r.1 = false ∧ i 57 19 = nI r.2.1)) → WP 47 (1000000, 0, 0) none M_X12_line (mLQ I J ls r) 66 [some (.ref 57), some (.int (nI (61 + ls.length)))] [] xG1 i J := by
    intro r i hF h72 h18 hd
    have hF2 : ∀ v w, mFL I (xu (xu i 74 (61 + ls.length) v) 72 1 w) (lwModel ls).length ls.length := fun v w => (hF.up1 (Or.inl ⟨Or.inr rfl, Nat.le_refl _⟩)).up1 (Or.inr ⟨rfl, rfl⟩)
    have e57 : ∀ v w k, xu (xu i 74 (61 + ls.length) v) 72 1 w 57 k = i 57 k := fun v w k => by rw [xu_row (by decide), xu_row (by decide)]
    rcases hd with ⟨d1, d2, d3, d4, d5, d6, d7⟩ | ⟨d1, d2⟩
    · have e3 : lwStart (ls ++ [r.2.2]) ls.length = (lwModel ls).length := by rw [lwS_app (Nat.le_refl _), lwS_all]
      refine iX12_line_66 (iX12_line_67 (iX12_line_70 (iX12_line_71 (iX12_line_72 ?_))))
      rw [d4]
      refine iX12_line_75 (iX12_line_76 (vp_in_nI (by omega) (by omega)) ?_)
      rw [nI_clamp (by omega), nar_i d5, nar_s d5]
      refine iX12_line_77 (iX12_line_78 (iX12_line_81 (iX12_line_82 (iX12_line_83 (vin 2 (by decide) (by grind) (by grind)) ?_))))
      rw [c1, xu_row (by decide), h72]
      refine iX12_line_84 (iX12_line_85 ?_)
      rw [ej]
      refine iX12_line_86 (vin 2 (by decide) (by grind) (by grind)) ?_
      rw [c1]
      refine iX12_line_87 ?_
      refine ⟨rfl, rfl, rfl, hF2 _ _, by rw [e57]; exact h18, Or.inl ⟨d1, by rw [e57]; exact d2, by rw [e57]; exact d3, ?_, ?_, ?_, ?_⟩⟩
      · rw [e57, d4, lwM_app]
        simp only [List.length_append]
        rw [Nat.add_assoc]
      · rw [lwM_app]
        refine stM.fr (i := i) (stM.app (l2.fr (fun k hk => hF.2.2.1 k hk)) d6) (fun k _ => ⟨?_, ?_⟩)
        · rw [xu_row (by decide), xu_row (by decide)]
        · rw [xu_row (by decide), xu_row (by decide)]
      · exact xu_eq.trans (by simp)
      · intro j l hl
        have hjl := (List.getElem?_eq_some_iff.mp hl).1
        simp only [List.length_append, List.length_cons, List.length_nil] at hjl
        rw [xu_row (by decide), xu_row (by decide), xu_row (by decide)]
        by_cases q : j < ls.length
        · rw [List.getElem?_append_left q] at hl
          have := l4 j l hl
          rw [xu_col (by omega), lwS_app (by omega), (hF.2.2.2.2 _ (by omega)).1, (hF.2.2.2.2 _ (by omega)).2]
          exact this
        · obtain rfl : j = ls.length := by omega
          rw [List.getElem?_append_right (Nat.le_refl _), Nat.sub_self] at hl
          cases hl
          rw [e3, xu_eq]
          exact ⟨d7, rfl⟩
    · refine iX12_line_66 (iX12_line_67 (iX12_line_70 (iX12_line_71 (iX12_line_72 (iX12_line_75 (iX12_line_76 (vp_in_nI (by omega) (by omega)) ?_))))))
      rw [nI_clamp (by omega)]
      refine iX12_line_77 (iX12_line_78 (iX12_line_81 (iX12_line_82 (iX12_line_83 (vin 2 (by decide) (by grind) (by grind)) ?_))))
      rw [c1]
      refine iX12_line_84 (iX12_line_85 (iX12_line_86 (vin 2 (by decide) (by grind) (by grind)) ?_))
      rw [c1]
      refine iX12_line_87 ?_
      exact ⟨rfl, rfl, rfl, hF2 _ _, by rw [e57]; exact h18, Or.inr ⟨d1, by rw [e57]; exact d2⟩⟩
  have g := pEx_ok t3 p t7 _ _ _ (pR_eta _)
  have eL : ∀ S : pR, pEx c p = S → pLine c p = if S.1 = true then (if c S.2.1 = 63 then (if (pEx c (S.2.1 + 1)).1 = true then (true, (pEx c (S.2.1 + 1)).2.1, (S.2.2, (pEx c (S.2.1 + 1)).2.2)) else (false, (pEx c (S.2.1 + 1)).2.1, ([], []))) else (true, S.2.1, ([], S.2.2))) else (false, S.2.1, ([], [])) := fun S hS => by
    unfold pLine
    rw [hS]
  have fa : mFL I (xu I 73 (61 + ls.length) (nI (lwModel ls).length)) (lwModel ls).length ls.length := mFL.rf.up1 (Or.inl ⟨Or.inl rfl, Nat.le_refl _⟩)
  have hTa : TpM c l n (xu I 73 (61 + ls.length) (nI (lwModel ls).length)) p (lwModel ls).length 0 := hT.frL fa (by rw [xu_row (by decide)]; exact t6) t7 (by rw [xu_row (by decide)]; exact t8) (by rw [xu_row (by decide)]; exact t9) (by rw [xu_row (by decide)]; exact t10)
  have a72 : xu I 73 (61 + ls.length) (nI (lwModel ls).length) 72 1 = nI ls.length := by rw [xu_row (by decide)]; exact l3
  have a73 : xu I 73 (61 + ls.length) (nI (lwModel ls).length) 73 (61 + ls.length) = nI (lwModel ls).length := xu_eq
  have sp : Spec 45 (1000000, 0, 0) M_X12_either [.ref 57] xG1 (xu I 73 (61 + ls.length) (nI (lwModel ls).length)) J (mR (xu I 73 (61 + ls.length) (nI (lwModel ls).length)) J (lwModel ls).length p 0 (pEx c p)) := m_ex hlN _ p _ hTa (by omega)
  have s2 : ∀ (i : xI) (p2 z2 : Nat), TpM c l n i p2 z2 0 → z2 ≤ p2 → Spec 45 (1000000, 0, 0) M_X12_either [.ref 57] xG1 i J (mR i J z2 p2 0 (pEx c p2)) := fun i p2 z2 h1 h2 => m_ex hlN i p2 z2 h1 h2
  have lz : (lwModel ls).length < 200 := by omega
  have at9 : WP 47 (1000000, 0, 0) none M_X12_line (mLQ I J ls (pLine c p)) 21 [some (.ref 57), some (.int (nI (61 + ls.length)))] [] xG1 (xu I 73 (61 + ls.length) (nI (lwModel ls).length)) J := by
    generalize xu I 73 (61 + ls.length) (nI (lwModel ls).length) = Ia at *
    rw [eL _ rfl]
    generalize pEx c p = S at *
    obtain ⟨g1, g2, g3, g4⟩ := g
    have after : ∀ (i : xI), mR Ia J (lwModel ls).length p 0 S none xG1 i J → WP 47 (1000000, 0, 0) none M_X12_line (mLQ I J ls (if S.1 = true then (if c S.2.1 = 63 then (if (pEx c (S.2.1 + 1)).1 = true then (true, (pEx c (S.2.1 + 1)).2.1, (S.2.2, (pEx c (S.2.1 + 1)).2.2)) else (false, (pEx c (S.2.1 + 1)).2.1, ([], []))) else (true, S.2.1, ([], S.2.2))) else (false, S.2.1, ([], [])))) 25 [some (.ref 57), some (.int (nI (61 + ls.length)))] [] xG1 i J := by
      intro i hv
      obtain ⟨-, -, -, f1, f2, f3⟩ := hv
      have f1' := fa.tr (f1.fl ls.length) (Nat.le_refl _) (Nat.le_refl _)
      have i72 : i 72 1 = nI ls.length := by rw [f1.1 72 (by decide)]; exact a72
      have i73 : i 73 (61 + ls.length) = nI (lwModel ls).length := by rw [f1.1 73 (by decide)]; exact a73
      rcases f3 with ⟨hS1, f4, f5, f6, f7⟩ | ⟨hS1, f4, z', f5, f6, f7⟩
      · rw [if_pos hS1]
        have g3 := g3 hS1
        have hTi := hTa.fr f1 f2 g2 f4 f5 f6
        by_cases q : c S.2.1 = 63
        · rw [if_pos q]
          have hq1 : S.2.1 < n := byT_lt t3 (fun w => by rw [w] at q; revert q; decide)
          have ep : nI S.2.1 + 1 = nI (S.2.1 + 1) := nI_1 _
          have fb : mFL i (xu (xu i 57 18 (nI (S.2.1 + 1))) 73 (61 + ls.length) (nI ((lwModel ls).length + S.2.2.length))) (lwModel ls).length ls.length := (mFL.rf.up57 (by decide)).up1 (Or.inl ⟨Or.inl rfl, Nat.le_refl _⟩)
          have hTb : TpM c l n (xu (xu i 57 18 (nI (S.2.1 + 1))) 73 (61 + ls.length) (nI ((lwModel ls).length + S.2.2.length))) (S.2.1 + 1) ((lwModel ls).length + S.2.2.length) 0 := hTi.frL fb (by rw [xu_row (by decide), xu_eq]) (by omega) (by rw [xu_row (by decide), xu_col (by decide)]; exact f4) (by rw [xu_row (by decide), xu_col (by decide)]; exact f5) (by rw [xu_row (by decide), xu_col (by decide)]; exact f6)
          have b72 : xu (xu i 57 18 (nI (S.2.1 + 1))) 73 (61 + ls.length) (nI ((lwModel ls).length + S.2.2.length)) 72 1 = nI ls.length := by rw [xu_row (by decide), xu_row (by decide)]; exact i72
          have b73 : xu (xu i 57 18 (nI (S.2.1 + 1))) 73 (61 + ls.length) (nI ((lwModel ls).length + S.2.2.length)) 73 (61 + ls.length) = nI ((lwModel ls).length + S.2.2.length) := xu_eq
          have b70 : ∀ k, xu (xu i 57 18 (nI (S.2.1 + 1))) 73 (61 + ls.length) (nI ((lwModel ls).length + S.2.2.length)) 70 k = i 70 k ∧ xu (xu i 57 18 (nI (S.2.1 + 1))) 73 (61 + ls.length) (nI ((lwModel ls).length + S.2.2.length)) 71 k = i 71 k := fun k => ⟨by rw [xu_row (by decide), xu_row (by decide)], by rw [xu_row (by decide), xu_row (by decide)]⟩
          have sp2 := s2 _ _ _ hTb (by omega)
          have gk := pEx_ok t3 (S.2.1 + 1) (by omega) _ _ _ (pR_eta _)
          have lz2 : (lwModel ls).length + S.2.2.length < 200 := by omega
          have fin : ∀ (i2 : xI), mR (xu (xu i 57 18 (nI (S.2.1 + 1))) 73 (61 + ls.length) (nI ((lwModel ls).length + S.2.2.length))) J ((lwModel ls).length + S.2.2.length) (S.2.1 + 1) 0 (pEx c (S.2.1 + 1)) none xG1 i2 J → WP 47 (1000000, 0, 0) none M_X12_line (mLQ I J ls (if (pEx c (S.2.1 + 1)).1 = true then (true, (pEx c (S.2.1 + 1)).2.1, (S.2.2, (pEx c (S.2.1 + 1)).2.2)) else (false, (pEx c (S.2.1 + 1)).2.1, ([], [])))) 66 [some (.ref 57), some (.int (nI (61 + ls.length)))] [] xG1 i2 J := by
            intro i2 hv2
            generalize xu (xu i 57 18 (nI (S.2.1 + 1))) 73 (61 + ls.length) (nI ((lwModel ls).length + S.2.2.length)) = Ib at *
            obtain ⟨-, -, -, k1, k2, k3⟩ := hv2
            have kF := (f1'.tr fb (Nat.le_refl _) (Nat.le_refl _)).tr (k1.fl ls.length) (by omega) (Nat.le_refl _)
            have k72 : i2 72 1 = nI ls.length := by rw [k1.1 72 (by decide)]; exact b72
            have k73 : i2 73 (61 + ls.length) = nI ((lwModel ls).length + S.2.2.length) := by rw [k1.1 73 (by decide)]; exact b73
            generalize pEx c (S.2.1 + 1) = T at *
            obtain ⟨m1, m2, m3, m4⟩ := gk
            rcases k3 with ⟨hT1, k4, k5, k6, k7⟩ | ⟨hT1, k4, z', k5, k6, k7⟩
            · rw [if_pos hT1]
              have m3 := m3 hT1
              refine tail _ i2 kF k72 k2 (Or.inl ⟨rfl, k4, k5, k6, by simp only; omega, stM.app (stM.fr f7 (fun k hk => ?_)) (by rw [Nat.add_assoc]; exact k7), k73⟩)
              have hk : k < 130 + (lwModel ls).length + S.2.2.length := hk
              rw [(k1.2.2 k (by omega)).1, (k1.2.2 k (by omega)).2, (b70 k).1, (b70 k).2]
              exact ⟨rfl, rfl⟩
            · rw [if_neg (by rw [hT1]; decide)]
              exact tail _ i2 kF k72 k2 (Or.inr ⟨rfl, k4⟩)
          refine iX12_line_25 (iX12_line_26 ?_)
          rw [f4]
          refine iX12_line_29 (fun h29 => absurd h29 ((by decide : ¬ (0 : Int32) ≤ -1))) (fun h29 => ?_)
          refine iX12_line_32 (iX12_line_33 (s_X12_look hlN hTi) (hdd := by omega) (iX12_line_36 (iX12_line_38 (fun h38 => absurd h38 (fun w => w ((t4.eq S.2.1 (by decide) (by decide)).mpr q))) (fun h38 => ?_))))
          refine iX12_line_41 (iX12_line_42 (iX12_line_43 ?_))
          rw [f2]
          refine iX12_line_46 (iX12_line_47 ?_)
          rw [ep]
          refine iX12_line_48 (iX12_line_51 (iX12_line_52 (iX12_line_55 (iX12_line_56 (iX12_line_57 ?_)))))
          rw [xu_col (by decide), f6]
          refine iX12_line_60 (iX12_line_61 (vp_in_nI (by omega) (by omega)) ?_)
          rw [nI_clamp (by omega), nar_i lz2, nar_s lz2]
          refine iX12_line_62 (jX12_line_63 sp2 (hdd := by omega) (fun r63 g63 I63 J63 hq => ?_))
          have hq2 := hq
          obtain ⟨rfl, rfl, rfl, -⟩ := hq
          exact fin _ hq2
        · rw [if_neg q]
          refine iX12_line_25 (iX12_line_26 ?_)
          rw [f4]
          refine iX12_line_29 (fun h29 => absurd h29 ((by decide : ¬ (0 : Int32) ≤ -1))) (fun h29 => ?_)
          refine iX12_line_32 (iX12_line_33 (s_X12_look hlN hTi) (hdd := by omega) (iX12_line_36 (iX12_line_38 (fun h38 => ?_) (fun h38 => by first | exact absurd (fun w => q ((t4.eq S.2.1 (by decide) (by decide)).mp w)) h38 | exact absurd h38 (fun w => q ((t4.eq S.2.1 (by decide) (by decide)).mp w))))))
          exact tail _ i f1' i72 f2 (Or.inl ⟨rfl, f4, f5, f6, by simp only [List.length_nil]; omega, by rw [List.nil_append]; exact f7, i73⟩)
      · rw [if_neg (by rw [hS1]; decide)]
        refine iX12_line_25 (iX12_line_26 ?_)
        rw [f4]
        refine iX12_line_29 (fun h29 => ?_) (fun h29 => by first | exact absurd (nI_pos' (by omega)) h29 | exact absurd h29 (nI_pos' (by omega)))
        exact tail _ i f1' i72 f2 (Or.inr ⟨rfl, f4⟩)
    refine iX12_line_21 (jX12_line_22 sp (hdd := by omega) (fun r22 g22 I22 J22 hq => ?_))
    have hq2 := hq
    obtain ⟨rfl, rfl, rfl, -⟩ := hq
    exact after _ hq2
  refine iX12_line_0 (iX12_line_2 (iX12_line_3 (iX12_line_6 (iX12_line_7 (vin 2 (by decide) (by grind) (by grind)) (iX12_line_8 ?_)))))
  rw [c1, l3, e61]
  refine iX12_line_9 (iX12_line_10 (iX12_line_11 (iX12_line_14 (iX12_line_15 (iX12_line_16 ?_)))))
  rw [t10]
  refine iX12_line_19 (iX12_line_20 (vp_in_nI (by omega) (by omega)) ?_)
  rw [nI_clamp (by omega), nar_i lz, nar_s lz]
  exact at9
end
