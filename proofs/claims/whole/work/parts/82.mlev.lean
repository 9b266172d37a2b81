/-! ===== the reference's levels (written by gen_mlev.py) ===== -/
def MX (c l : Nat → Int32) (n : Nat) (J : xJ) (M : xM) (D k d : Nat) : Prop := ∀ (I : xI) (p z : Nat), TpM c l n I p z (6 - k) → z ≤ p → Spec D (1000000, 0, 0) M [.ref 57] xG1 I J (mR I J z p (6 - k) (levN c (opd c k) d p))
theorem pLoop_s {c : Nat → Int32} {L : Nat} {S : Nat → pR} {f p : Nat} {ts : List Int32} : pLoop c L S (f + 1) p ts = if lvI (c p) = nI L then (if (S (p + 1)).1 = true then (if L = 2 then (true, (S (p + 1)).2.1, ts ++ ((S (p + 1)).2.2 ++ [-(c p)])) else pLoop c L S f (S (p + 1)).2.1 (ts ++ ((S (p + 1)).2.2 ++ [-(c p)]))) else (false, (S (p + 1)).2.1, [])) else (true, p, ts) := rfl
theorem lv_4 {x : Int32} : lvI x = nI 4 ↔ x = 42 ∨ x = 47 ∨ x = 37 := by
  rw [show nI 4 = 4 from rfl]
  unfold lvI
  grind
theorem lv_3 {x : Int32} : lvI x = nI 3 ↔ x = 43 ∨ x = 45 := by
  rw [show nI 3 = 3 from rfl]
  unfold lvI
  grind
theorem lv_2 {x : Int32} : lvI x = nI 2 ↔ x = 60 ∨ x = 61 ∨ x = 62 := by
  rw [show nI 2 = 2 from rfl]
  unfold lvI
  grind
theorem lv_1 {x : Int32} : lvI x = nI 1 ↔ x = 38 := by
  rw [show nI 1 = 1 from rfl]
  unfold lvI
  grind
theorem lv_0 {x : Int32} : lvI x = nI 0 ↔ x = 124 := by
  rw [show nI 0 = 0 from rfl]
  unfold lvI
  grind
/-- what a sign of a level is to both -/
theorem sign_is {x : Int32} {L : Nat} (hL : L ≤ 4) (h : lvI x = nI L) : ∃ m : Nat, m < 128 ∧ x = nI m ∧ mAct (-x) = x ∧ mWith (-x) = 0 := by
  obtain ⟨hb, hx⟩ := lvI_bin hL h
  obtain ⟨a1, a2, -, -, -, -, -, -, -, -, -, b8, -⟩ := bin_facts hb
  have e2 : mWith (-x) = 0 := by simp only [mWith, if_neg a1, if_neg a2]
  have e1 : mAct (-x) = x := by rw [b8, Int32.neg_neg]
  rcases hx with rfl | rfl | rfl | rfl | rfl | rfl | rfl | rfl | rfl | rfl
  · exact ⟨124, by omega, rfl, e1, e2⟩
  · exact ⟨38, by omega, rfl, e1, e2⟩
  · exact ⟨60, by omega, rfl, e1, e2⟩
  · exact ⟨61, by omega, rfl, e1, e2⟩
  · exact ⟨62, by omega, rfl, e1, e2⟩
  · exact ⟨43, by omega, rfl, e1, e2⟩
  · exact ⟨45, by omega, rfl, e1, e2⟩
  · exact ⟨42, by omega, rfl, e1, e2⟩
  · exact ⟨47, by omega, rfl, e1, e2⟩
  · exact ⟨37, by omega, rfl, e1, e2⟩
section
variable {J : xJ} {c l : Nat → Int32} {n : Nat}
theorem m_loop_product (hlN : byT l n) {k D : Nat} (hX : MX c l n J M_X12_operand D k 0) {I0 : xI} {z0 p0 : Nat} (hz0 : z0 ≤ p0) : ∀ (f p : Nat) (ts : List Int32) (I : xI) (a1 : Option Value), n < p + f → mF I0 I z0 → TpM c l n I p (z0 + ts.length) (6 - k) → ts.length + p0 ≤ p → stM I (130 + z0) ts → WP (D + 1) (1000000, 0, 0) none M_X12_product (mR I0 J z0 p0 (6 - k) (pLoop c 4 (levN c (opd c k) 0) f p ts)) 4 [some (.ref 57), a1] [] xG1 I J := by
  intro f
  induction f with
  | zero =>
    intro p ts I a1 hf hI hT hz hs
    have := hT.2.2.2.2.2.2.1
    omega
  | succ f ih =>
    intro p ts I a1 hf hI hT hz hs
    obtain ⟨t1, t2, t3, t4, t5, t6, t7, t8, t9, t10⟩ := id hT
    rw [pLoop_s]
    by_cases q : lvI (c p) = nI 4
    · rw [if_pos q]
      have hp1 := byT_lt t3 (lvI_ne (by omega) q)
      have ep : nI p + 1 = nI (p + 1) := nI_1 _
      obtain ⟨m, hm, em, ea, ew⟩ := sign_is (by omega) q
      have elp : l p = nI m := by rw [← em]; exact (t4.eq p (by rw [em]; exact nI_pos' (by omega)) (by rw [em]; exact nI_lt (b := 128) hm (by omega))).mpr rfl
      have hTa : TpM c l n (xu I 57 18 (nI (p + 1))) (p + 1) (z0 + ts.length) (6 - k) := hT.fr (mF.rf.up57 (z := z0) (by decide)) xu_eq (by omega) (by rw [xu_col (by decide)]; exact t8) (by rw [xu_col (by decide)]; exact t9) (by rw [xu_col (by decide)]; exact t10)
      have hIa : mF I0 (xu I 57 18 (nI (p + 1))) z0 := hI.up57 (by decide)
      have sp := hX (xu I 57 18 (nI (p + 1))) (p + 1) (z0 + ts.length) hTa (by omega)
      have g := levN_ok t3 (opd_ok t3 k) 0 (p + 1) (by omega) _ _ _ (pR_eta _)
      generalize levN c (opd c k) 0 (p + 1) = S at *
      obtain ⟨g1, g2, g3, g4⟩ := g
      have after : ∀ (i : xI), mR (xu I 57 18 (nI (p + 1))) J (z0 + ts.length) (p + 1) (6 - k) S none xG1 i J → WP (D + 1) (1000000, 0, 0) none M_X12_product (mR I0 J z0 p0 (6 - k) (if S.1 = true then (if 4 = 2 then (true, S.2.1, ts ++ (S.2.2 ++ [-(c p)])) else pLoop c 4 (levN c (opd c k) 0) f S.2.1 (ts ++ (S.2.2 ++ [-(c p)]))) else (false, S.2.1, []))) 57 [some (.ref 57), some (.int (l p))] [] xG1 i J := by
        intro i hv
        obtain ⟨-, -, -, f1, f2, f3⟩ := hv
        have hIi := hIa.tr f1 (by omega)
        rcases f3 with ⟨hS1, f4, f5, f6, f7⟩ | ⟨hS1, f4, z', f5, f6, f7⟩
        · rw [if_pos hS1, if_neg (by decide)]
          have g3 := g3 hS1
          have hTi : TpM c l n i S.2.1 (z0 + ts.length + S.2.2.length) (6 - k) := hTa.fr f1 f2 g2 f4 f5 f6
          have lB : z0 + (ts ++ (S.2.2 ++ [-(c p)])).length = z0 + ts.length + S.2.2.length + 1 := by
            simp only [List.length_append, List.length_cons, List.length_nil]
            omega
          have sB : stM (g_add i (z0 + ts.length + S.2.2.length) (nI m) 0) (130 + z0) (ts ++ (S.2.2 ++ [-(c p)])) := by
            refine stM.app (hs.fr (fun k hk => ?_)) (stM.app (stM.fr (i := i) (by rw [show 130 + z0 + ts.length = 130 + (z0 + ts.length) by omega]; exact f7) (fun k hk => g_add_lo (by omega))) (stM.one ?_ ?_))
            · have h1 := g_add_lo (I := i) (z := z0 + ts.length + S.2.2.length) (x := nI m) (v := 0) (k := k) (by omega)
              have h2 := f1.2.2 k (by omega)
              rw [h1.1, h1.2, h2.1, h2.2, xu_row (by decide), xu_row (by decide)]
              exact ⟨rfl, rfl⟩
            · rw [show 130 + z0 + ts.length + S.2.2.length = 130 + (z0 + ts.length + S.2.2.length) by omega, g_add_at.1, ea, em]
            · rw [show 130 + z0 + ts.length + S.2.2.length = 130 + (z0 + ts.length + S.2.2.length) by omega, g_add_at.2, ew]
          have hTB : TpM c l n (g_add i (z0 + ts.length + S.2.2.length) (nI m) 0) S.2.1 (z0 + (ts ++ (S.2.2 ++ [-(c p)])).length) (6 - k) := by
            rw [lB]
            exact hTi.fr (g_add_F mF.rf (Nat.le_refl _)) (by rw [g_add_57 (by decide)]; exact f2) g2 (by rw [g_add_57 (by decide)]; exact f4) (by rw [g_add_57 (by decide)]; exact f5) g_add_21
          have sa := s_X12_addStep (J := J) (z := z0 + ts.length + S.2.2.length) (m := m) (by omega) f6 hm 0
          rw [← elp] at sa
          have hh := ih S.2.1 (ts ++ (S.2.2 ++ [-(c p)])) (g_add i (z0 + ts.length + S.2.2.length) (nI m) 0) (some (.int (l p))) (by omega) (g_add_F hIi (by omega)) hTB (by simp only [List.length_append, List.length_cons, List.length_nil]; omega) sB
          refine iX12_product_57 (iX12_product_58 (iX12_product_59 (iX12_product_60 sa (hdd := by omega) (iX12_product_63 ?_))))
          rw [← elp] at hh
          exact hh
        · rw [if_neg (by rw [hS1]; decide)]
          have sa := s_X12_addStep (J := J) (I := i) (z := z') (m := m) (by omega) f7 hm 0
          rw [← elp] at sa
          refine iX12_product_57 (iX12_product_58 (iX12_product_59 (iX12_product_60 sa (hdd := by omega) (iX12_product_63 (iX12_product_4 (iX12_product_5 ?_))))))
          rw [g_add_57 (by decide), f4]
          refine iX12_product_8 (fun h8 => ?_) (fun h8 => by first | exact absurd (nI_pos' (by omega)) h8 | exact absurd h8 (nI_pos' (by omega)))
          refine iX12_product_66 ?_
          exact ⟨rfl, rfl, rfl, g_add_F hIi (by omega), by rw [g_add_57 (by decide)]; exact f2, Or.inr ⟨rfl, by rw [g_add_57 (by decide)]; exact f4, z' + 1, by omega, by simp only; omega, g_add_21⟩⟩
      have tail : ∀ a1 : Option Value, WP (D + 1) (1000000, 0, 0) none M_X12_product (mR I0 J z0 p0 (6 - k) (if S.1 = true then (if 4 = 2 then (true, S.2.1, ts ++ (S.2.2 ++ [-(c p)])) else pLoop c 4 (levN c (opd c k) 0) f S.2.1 (ts ++ (S.2.2 ++ [-(c p)]))) else (false, S.2.1, []))) 38 [some (.ref 57), a1] [] xG1 I J := by
        intro a1
        refine iX12_product_38 (iX12_product_39 (s_X12_look hlN hT) (hdd := by omega) (iX12_product_42 (iX12_product_43 (iX12_product_44 (iX12_product_45 ?_)))))
        rw [t6]
        refine iX12_product_48 (iX12_product_49 ?_)
        rw [ep]
        refine iX12_product_50 (iX12_product_53 (jX12_product_54 sp (hdd := by omega) (fun r54 g54 I54 J54 hq => ?_)))
        have hq2 := hq
        obtain ⟨rfl, rfl, rfl, -⟩ := hq
        exact after _ hq2
      refine iX12_product_4 (iX12_product_5 ?_)
      rw [t8]
      refine iX12_product_8 (fun h8 => absurd h8 ((by decide : ¬ (0 : Int32) ≤ -1))) (fun h8 => ?_)
      refine iX12_product_11 (iX12_product_12 (s_X12_look hlN hT) (hdd := by omega) (iX12_product_15 (iX12_product_17 (fun h17 => ?_) (fun h17 => ?_))))
      · exact tail _
      · refine iX12_product_20 (iX12_product_21 (s_X12_look hlN hT) (hdd := by omega) (iX12_product_24 (iX12_product_26 (fun h26 => ?_) (fun h26 => ?_))))
        · exact tail _
        · refine iX12_product_29 (iX12_product_30 (s_X12_look hlN hT) (hdd := by omega) (iX12_product_33 (iX12_product_35 (fun h35 => ?_) (fun h35 => ?_))))
          · exfalso
            rcases lv_4.mp q with w | w | w
            · exact h17 ((t4.eq p (by decide) (by decide)).mpr w)
            · exact h26 ((t4.eq p (by decide) (by decide)).mpr w)
            · exact h35 ((t4.eq p (by decide) (by decide)).mpr w)
          · exact tail _
    · rw [if_neg q]
      refine iX12_product_4 (iX12_product_5 ?_)
      rw [t8]
      refine iX12_product_8 (fun h8 => absurd h8 ((by decide : ¬ (0 : Int32) ≤ -1))) (fun h8 => ?_)
      refine iX12_product_11 (iX12_product_12 (s_X12_look hlN hT) (hdd := by omega) (iX12_product_15 (iX12_product_17 (fun h17 => ?_) (fun h17 => ?_))))
      · exfalso
        first | exact q (lv_4.mpr (Or.inl ((t4.eq p (by decide) (by decide)).mp h17))) | exact q (lv_4.mpr (Or.inr (Or.inl ((t4.eq p (by decide) (by decide)).mp h26)))) | exact q (lv_4.mpr (Or.inr (Or.inr ((t4.eq p (by decide) (by decide)).mp h35))))
      · refine iX12_product_20 (iX12_product_21 (s_X12_look hlN hT) (hdd := by omega) (iX12_product_24 (iX12_product_26 (fun h26 => ?_) (fun h26 => ?_))))
        · exfalso
          first | exact q (lv_4.mpr (Or.inl ((t4.eq p (by decide) (by decide)).mp h17))) | exact q (lv_4.mpr (Or.inr (Or.inl ((t4.eq p (by decide) (by decide)).mp h26)))) | exact q (lv_4.mpr (Or.inr (Or.inr ((t4.eq p (by decide) (by decide)).mp h35))))
        · refine iX12_product_29 (iX12_product_30 (s_X12_look hlN hT) (hdd := by omega) (iX12_product_33 (iX12_product_35 (fun h35 => ?_) (fun h35 => ?_))))
          · refine iX12_product_66 ?_
            exact ⟨rfl, rfl, rfl, hI, t6, Or.inl ⟨rfl, t8, t9, t10, hs⟩⟩
          · exfalso
            first | exact q (lv_4.mpr (Or.inl ((t4.eq p (by decide) (by decide)).mp h17))) | exact q (lv_4.mpr (Or.inr (Or.inl ((t4.eq p (by decide) (by decide)).mp h26)))) | exact q (lv_4.mpr (Or.inr (Or.inr ((t4.eq p (by decide) (by decide)).mp h35))))
theorem m_product (hlN : byT l n) {k D : Nat} (hX : MX c l n J M_X12_operand D k 0) : MX c l n J M_X12_product (D + 1) k 1 := by
  intro I p z hT hz
  obtain ⟨t1, t2, t3, t4, t5, t6, t7, t8, t9, t10⟩ := id hT
  have g := levN_ok t3 (opd_ok t3 k) 0 p t7 _ _ _ (pR_eta _)
  have sp := hX I p z hT hz
  have eP : levN c (opd c k) 1 p = if (levN c (opd c k) 0 p).1 = true then pLoop c 4 (levN c (opd c k) 0) 121 (levN c (opd c k) 0 p).2.1 (levN c (opd c k) 0 p).2.2 else (false, (levN c (opd c k) 0 p).2.1, []) := rfl
  rw [eP]
  generalize hSe : levN c (opd c k) 0 p = S at *
  obtain ⟨g1, g2, g3, g4⟩ := g
  refine spec_of (L := [some (.ref 57), none]) (by decide) (Nat.le_of_ble_eq_true rfl) rfl ?_
  have after : ∀ (i : xI), mR I J z p (6 - k) S none xG1 i J → WP (D + 1) (1000000, 0, 0) none M_X12_product (mR I J z p (6 - k) (if S.1 = true then pLoop c 4 (levN c (opd c k) 0) 121 S.2.1 S.2.2 else (false, S.2.1, []))) 4 [some (.ref 57), none] [] xG1 i J := by
    intro i hv
    obtain ⟨-, -, -, f1, f2, f3⟩ := hv
    rcases f3 with ⟨hS1, f4, f5, f6, f7⟩ | ⟨hS1, f4, z', f5, f6, f7⟩
    · rw [if_pos hS1]
      have g3 := g3 hS1
      exact m_loop_product hlN hX hz 121 _ _ i _ (by omega) f1 (hT.fr f1 f2 g2 f4 f5 f6) (by omega) f7
    · rw [if_neg (by rw [hS1]; decide)]
      refine iX12_product_4 (iX12_product_5 ?_)
      rw [f4]
      refine iX12_product_8 (fun h8 => ?_) (fun h8 => by first | exact absurd (nI_pos' (by omega)) h8 | exact absurd h8 (nI_pos' (by omega)))
      refine iX12_product_66 ?_
      exact ⟨rfl, rfl, rfl, f1, f2, Or.inr ⟨rfl, f4, z', f5, f6, f7⟩⟩
  refine iX12_product_0 (jX12_product_1 sp (hdd := by omega) (fun r1 g1 I1 J1 hq => ?_))
  have hq2 := hq
  obtain ⟨rfl, rfl, rfl, -⟩ := hq
  exact after _ hq2
theorem m_loop_sum (hlN : byT l n) {k D : Nat} (hX : MX c l n J M_X12_product D k 1) {I0 : xI} {z0 p0 : Nat} (hz0 : z0 ≤ p0) : ∀ (f p : Nat) (ts : List Int32) (I : xI) (a1 : Option Value), n < p + f → mF I0 I z0 → TpM c l n I p (z0 + ts.length) (6 - k) → ts.length + p0 ≤ p → stM I (130 + z0) ts → WP (D + 1) (1000000, 0, 0) none M_X12_sum (mR I0 J z0 p0 (6 - k) (pLoop c 3 (levN c (opd c k) 1) f p ts)) 4 [some (.ref 57), a1] [] xG1 I J := by
  intro f
  induction f with
  | zero =>
    intro p ts I a1 hf hI hT hz hs
    have := hT.2.2.2.2.2.2.1
    omega
  | succ f ih =>
    intro p ts I a1 hf hI hT hz hs
    obtain ⟨t1, t2, t3, t4, t5, t6, t7, t8, t9, t10⟩ := id hT
    rw [pLoop_s]
    by_cases q : lvI (c p) = nI 3
    · rw [if_pos q]
      have hp1 := byT_lt t3 (lvI_ne (by omega) q)
      have ep : nI p + 1 = nI (p + 1) := nI_1 _
      obtain ⟨m, hm, em, ea, ew⟩ := sign_is (by omega) q
      have elp : l p = nI m := by rw [← em]; exact (t4.eq p (by rw [em]; exact nI_pos' (by omega)) (by rw [em]; exact nI_lt (b := 128) hm (by omega))).mpr rfl
      have hTa : TpM c l n (xu I 57 18 (nI (p + 1))) (p + 1) (z0 + ts.length) (6 - k) := hT.fr (mF.rf.up57 (z := z0) (by decide)) xu_eq (by omega) (by rw [xu_col (by decide)]; exact t8) (by rw [xu_col (by decide)]; exact t9) (by rw [xu_col (by decide)]; exact t10)
      have hIa : mF I0 (xu I 57 18 (nI (p + 1))) z0 := hI.up57 (by decide)
      have sp := hX (xu I 57 18 (nI (p + 1))) (p + 1) (z0 + ts.length) hTa (by omega)
      have g := levN_ok t3 (opd_ok t3 k) 1 (p + 1) (by omega) _ _ _ (pR_eta _)
      generalize levN c (opd c k) 1 (p + 1) = S at *
      obtain ⟨g1, g2, g3, g4⟩ := g
      have after : ∀ (i : xI), mR (xu I 57 18 (nI (p + 1))) J (z0 + ts.length) (p + 1) (6 - k) S none xG1 i J → WP (D + 1) (1000000, 0, 0) none M_X12_sum (mR I0 J z0 p0 (6 - k) (if S.1 = true then (if 3 = 2 then (true, S.2.1, ts ++ (S.2.2 ++ [-(c p)])) else pLoop c 3 (levN c (opd c k) 1) f S.2.1 (ts ++ (S.2.2 ++ [-(c p)]))) else (false, S.2.1, []))) 48 [some (.ref 57), some (.int (l p))] [] xG1 i J := by
        intro i hv
        obtain ⟨-, -, -, f1, f2, f3⟩ := hv
        have hIi := hIa.tr f1 (by omega)
        rcases f3 with ⟨hS1, f4, f5, f6, f7⟩ | ⟨hS1, f4, z', f5, f6, f7⟩
        · rw [if_pos hS1, if_neg (by decide)]
          have g3 := g3 hS1
          have hTi : TpM c l n i S.2.1 (z0 + ts.length + S.2.2.length) (6 - k) := hTa.fr f1 f2 g2 f4 f5 f6
          have lB : z0 + (ts ++ (S.2.2 ++ [-(c p)])).length = z0 + ts.length + S.2.2.length + 1 := by
            simp only [List.length_append, List.length_cons, List.length_nil]
            omega
          have sB : stM (g_add i (z0 + ts.length + S.2.2.length) (nI m) 0) (130 + z0) (ts ++ (S.2.2 ++ [-(c p)])) := by
            refine stM.app (hs.fr (fun k hk => ?_)) (stM.app (stM.fr (i := i) (by rw [show 130 + z0 + ts.length = 130 + (z0 + ts.length) by omega]; exact f7) (fun k hk => g_add_lo (by omega))) (stM.one ?_ ?_))
            · have h1 := g_add_lo (I := i) (z := z0 + ts.length + S.2.2.length) (x := nI m) (v := 0) (k := k) (by omega)
              have h2 := f1.2.2 k (by omega)
              rw [h1.1, h1.2, h2.1, h2.2, xu_row (by decide), xu_row (by decide)]
              exact ⟨rfl, rfl⟩
            · rw [show 130 + z0 + ts.length + S.2.2.length = 130 + (z0 + ts.length + S.2.2.length) by omega, g_add_at.1, ea, em]
            · rw [show 130 + z0 + ts.length + S.2.2.length = 130 + (z0 + ts.length + S.2.2.length) by omega, g_add_at.2, ew]
          have hTB : TpM c l n (g_add i (z0 + ts.length + S.2.2.length) (nI m) 0) S.2.1 (z0 + (ts ++ (S.2.2 ++ [-(c p)])).length) (6 - k) := by
            rw [lB]
            exact hTi.fr (g_add_F mF.rf (Nat.le_refl _)) (by rw [g_add_57 (by decide)]; exact f2) g2 (by rw [g_add_57 (by decide)]; exact f4) (by rw [g_add_57 (by decide)]; exact f5) g_add_21
          have sa := s_X12_addStep (J := J) (z := z0 + ts.length + S.2.2.length) (m := m) (by omega) f6 hm 0
          rw [← elp] at sa
          have hh := ih S.2.1 (ts ++ (S.2.2 ++ [-(c p)])) (g_add i (z0 + ts.length + S.2.2.length) (nI m) 0) (some (.int (l p))) (by omega) (g_add_F hIi (by omega)) hTB (by simp only [List.length_append, List.length_cons, List.length_nil]; omega) sB
          refine iX12_sum_48 (iX12_sum_49 (iX12_sum_50 (iX12_sum_51 sa (hdd := by omega) (iX12_sum_54 ?_))))
          rw [← elp] at hh
          exact hh
        · rw [if_neg (by rw [hS1]; decide)]
          have sa := s_X12_addStep (J := J) (I := i) (z := z') (m := m) (by omega) f7 hm 0
          rw [← elp] at sa
          refine iX12_sum_48 (iX12_sum_49 (iX12_sum_50 (iX12_sum_51 sa (hdd := by omega) (iX12_sum_54 (iX12_sum_4 (iX12_sum_5 ?_))))))
          rw [g_add_57 (by decide), f4]
          refine iX12_sum_8 (fun h8 => ?_) (fun h8 => by first | exact absurd (nI_pos' (by omega)) h8 | exact absurd h8 (nI_pos' (by omega)))
          refine iX12_sum_57 ?_
          exact ⟨rfl, rfl, rfl, g_add_F hIi (by omega), by rw [g_add_57 (by decide)]; exact f2, Or.inr ⟨rfl, by rw [g_add_57 (by decide)]; exact f4, z' + 1, by omega, by simp only; omega, g_add_21⟩⟩
      have tail : ∀ a1 : Option Value, WP (D + 1) (1000000, 0, 0) none M_X12_sum (mR I0 J z0 p0 (6 - k) (if S.1 = true then (if 3 = 2 then (true, S.2.1, ts ++ (S.2.2 ++ [-(c p)])) else pLoop c 3 (levN c (opd c k) 1) f S.2.1 (ts ++ (S.2.2 ++ [-(c p)]))) else (false, S.2.1, []))) 29 [some (.ref 57), a1] [] xG1 I J := by
        intro a1
        refine iX12_sum_29 (iX12_sum_30 (s_X12_look hlN hT) (hdd := by omega) (iX12_sum_33 (iX12_sum_34 (iX12_sum_35 (iX12_sum_36 ?_)))))
        rw [t6]
        refine iX12_sum_39 (iX12_sum_40 ?_)
        rw [ep]
        refine iX12_sum_41 (iX12_sum_44 (jX12_sum_45 sp (hdd := by omega) (fun r45 g45 I45 J45 hq => ?_)))
        have hq2 := hq
        obtain ⟨rfl, rfl, rfl, -⟩ := hq
        exact after _ hq2
      refine iX12_sum_4 (iX12_sum_5 ?_)
      rw [t8]
      refine iX12_sum_8 (fun h8 => absurd h8 ((by decide : ¬ (0 : Int32) ≤ -1))) (fun h8 => ?_)
      refine iX12_sum_11 (iX12_sum_12 (s_X12_look hlN hT) (hdd := by omega) (iX12_sum_15 (iX12_sum_17 (fun h17 => ?_) (fun h17 => ?_))))
      · exact tail _
      · refine iX12_sum_20 (iX12_sum_21 (s_X12_look hlN hT) (hdd := by omega) (iX12_sum_24 (iX12_sum_26 (fun h26 => ?_) (fun h26 => ?_))))
        · exfalso
          rcases lv_3.mp q with w | w
          · exact h17 ((t4.eq p (by decide) (by decide)).mpr w)
          · exact h26 ((t4.eq p (by decide) (by decide)).mpr w)
        · exact tail _
    · rw [if_neg q]
      refine iX12_sum_4 (iX12_sum_5 ?_)
      rw [t8]
      refine iX12_sum_8 (fun h8 => absurd h8 ((by decide : ¬ (0 : Int32) ≤ -1))) (fun h8 => ?_)
      refine iX12_sum_11 (iX12_sum_12 (s_X12_look hlN hT) (hdd := by omega) (iX12_sum_15 (iX12_sum_17 (fun h17 => ?_) (fun h17 => ?_))))
      · exfalso
        first | exact q (lv_3.mpr (Or.inl ((t4.eq p (by decide) (by decide)).mp h17))) | exact q (lv_3.mpr (Or.inr ((t4.eq p (by decide) (by decide)).mp h26)))
      · refine iX12_sum_20 (iX12_sum_21 (s_X12_look hlN hT) (hdd := by omega) (iX12_sum_24 (iX12_sum_26 (fun h26 => ?_) (fun h26 => ?_))))
        · refine iX12_sum_57 ?_
          exact ⟨rfl, rfl, rfl, hI, t6, Or.inl ⟨rfl, t8, t9, t10, hs⟩⟩
        · exfalso
          first | exact q (lv_3.mpr (Or.inl ((t4.eq p (by decide) (by decide)).mp h17))) | exact q (lv_3.mpr (Or.inr ((t4.eq p (by decide) (by decide)).mp h26)))
theorem m_sum (hlN : byT l n) {k D : Nat} (hX : MX c l n J M_X12_product D k 1) : MX c l n J M_X12_sum (D + 1) k 2 := by
  intro I p z hT hz
  obtain ⟨t1, t2, t3, t4, t5, t6, t7, t8, t9, t10⟩ := id hT
  have g := levN_ok t3 (opd_ok t3 k) 1 p t7 _ _ _ (pR_eta _)
  have sp := hX I p z hT hz
  have eP : levN c (opd c k) 2 p = if (levN c (opd c k) 1 p).1 = true then pLoop c 3 (levN c (opd c k) 1) 121 (levN c (opd c k) 1 p).2.1 (levN c (opd c k) 1 p).2.2 else (false, (levN c (opd c k) 1 p).2.1, []) := rfl
  rw [eP]
  generalize hSe : levN c (opd c k) 1 p = S at *
  obtain ⟨g1, g2, g3, g4⟩ := g
  refine spec_of (L := [some (.ref 57), none]) (by decide) (Nat.le_of_ble_eq_true rfl) rfl ?_
  have after : ∀ (i : xI), mR I J z p (6 - k) S none xG1 i J → WP (D + 1) (1000000, 0, 0) none M_X12_sum (mR I J z p (6 - k) (if S.1 = true then pLoop c 3 (levN c (opd c k) 1) 121 S.2.1 S.2.2 else (false, S.2.1, []))) 4 [some (.ref 57), none] [] xG1 i J := by
    intro i hv
    obtain ⟨-, -, -, f1, f2, f3⟩ := hv
    rcases f3 with ⟨hS1, f4, f5, f6, f7⟩ | ⟨hS1, f4, z', f5, f6, f7⟩
    · rw [if_pos hS1]
      have g3 := g3 hS1
      exact m_loop_sum hlN hX hz 121 _ _ i _ (by omega) f1 (hT.fr f1 f2 g2 f4 f5 f6) (by omega) f7
    · rw [if_neg (by rw [hS1]; decide)]
      refine iX12_sum_4 (iX12_sum_5 ?_)
      rw [f4]
      refine iX12_sum_8 (fun h8 => ?_) (fun h8 => by first | exact absurd (nI_pos' (by omega)) h8 | exact absurd h8 (nI_pos' (by omega)))
      refine iX12_sum_57 ?_
      exact ⟨rfl, rfl, rfl, f1, f2, Or.inr ⟨rfl, f4, z', f5, f6, f7⟩⟩
  refine iX12_sum_0 (jX12_sum_1 sp (hdd := by omega) (fun r1 g1 I1 J1 hq => ?_))
  have hq2 := hq
  obtain ⟨rfl, rfl, rfl, -⟩ := hq
  exact after _ hq2
theorem m_compared (hlN : byT l n) {k D : Nat} (hX : MX c l n J M_X12_sum D k 2) : MX c l n J M_X12_compared (D + 1) k 3 := by
  intro I p0 z hT0 hz
  obtain ⟨t1, t2, t3, t4, t5, t6, t7, t8, t9, t10⟩ := id hT0
  have g := levN_ok t3 (opd_ok t3 k) 2 p0 t7 _ _ _ (pR_eta _)
  have sp := hX I p0 z hT0 hz
  have eP : levN c (opd c k) 3 p0 = if (levN c (opd c k) 2 p0).1 = true then pLoop c 2 (levN c (opd c k) 2) (120 + 1) (levN c (opd c k) 2 p0).2.1 (levN c (opd c k) 2 p0).2.2 else (false, (levN c (opd c k) 2 p0).2.1, []) := rfl
  rw [eP]
  generalize hSe : levN c (opd c k) 2 p0 = S0 at *
  obtain ⟨g1, g2, g3, g4⟩ := g
  refine spec_of (L := [some (.ref 57), none]) (by decide) (Nat.le_of_ble_eq_true rfl) rfl ?_
  have after : ∀ (i : xI), mR I J z p0 (6 - k) S0 none xG1 i J → WP (D + 1) (1000000, 0, 0) none M_X12_compared (mR I J z p0 (6 - k) (if S0.1 = true then pLoop c 2 (levN c (opd c k) 2) (120 + 1) S0.2.1 S0.2.2 else (false, S0.2.1, []))) 4 [some (.ref 57), none] [] xG1 i J := by
    intro i hv
    obtain ⟨-, -, -, f1, f2, f3⟩ := hv
    have slook : SpecF 0 M_X12_look [.ref 57] xG1 i J (some (.int (l S0.2.1))) i J := s_X12_look' ((f1.2.1 17 (by decide)).trans t1) t2 t3 t4 (fun q hq => by rw [f1.1 69 (by decide)]; exact t5 q hq) f2 g2 hlN
    rcases f3 with ⟨hS1, f4, f5, f6, f7⟩ | ⟨hS1, f4, z', f5, f6, f7⟩
    · rw [if_pos hS1, pLoop_s]
      have g3 := g3 hS1
      have hTi := hT0.fr f1 f2 g2 f4 f5 f6
      generalize hp : S0.2.1 = p at *
      generalize hts : S0.2.2 = ts at *
      by_cases q : lvI (c p) = nI 2
      · rw [if_pos q]
        have hp1 := byT_lt t3 (lvI_ne (by omega) q)
        have ep : nI p + 1 = nI (p + 1) := nI_1 _
        obtain ⟨m, hm, em, ea, ew⟩ := sign_is (by omega) q
        have elp : l p = nI m := by rw [← em]; exact (t4.eq p (by rw [em]; exact nI_pos' (by omega)) (by rw [em]; exact nI_lt (b := 128) hm (by omega))).mpr rfl
        have hTa : TpM c l n (xu i 57 18 (nI (p + 1))) (p + 1) (z + ts.length) (6 - k) := hTi.fr (mF.rf.up57 (z := z) (by decide)) xu_eq (by omega) (by rw [xu_col (by decide)]; exact f4) (by rw [xu_col (by decide)]; exact f5) (by rw [xu_col (by decide)]; exact f6)
        have hIa : mF I (xu i 57 18 (nI (p + 1))) z := f1.up57 (by decide)
        have sp2 := hX (xu i 57 18 (nI (p + 1))) (p + 1) (z + ts.length) hTa (by omega)
        have gg := levN_ok t3 (opd_ok t3 k) 2 (p + 1) (by omega) _ _ _ (pR_eta _)
        generalize levN c (opd c k) 2 (p + 1) = S at *
        obtain ⟨k1, k2, k3, k4⟩ := gg
        have after2 : ∀ (i2 : xI), mR (xu i 57 18 (nI (p + 1))) J (z + ts.length) (p + 1) (6 - k) S none xG1 i2 J → WP (D + 1) (1000000, 0, 0) none M_X12_compared (mR I J z p0 (6 - k) (if S.1 = true then (if 2 = 2 then (true, S.2.1, ts ++ (S.2.2 ++ [-(c p)])) else pLoop c 2 (levN c (opd c k) 2) 120 S.2.1 (ts ++ (S.2.2 ++ [-(c p)]))) else (false, S.2.1, []))) 49 [some (.ref 57), some (.int (l p))] [] xG1 i2 J := by
          intro i2 hv2
          obtain ⟨-, -, -, b1, b2, b3⟩ := hv2
          have hIi := hIa.tr b1 (by omega)
          rcases b3 with ⟨hS1, b4, b5, b6, b7⟩ | ⟨hS1, b4, z', b5, b6, b7⟩
          · rw [if_pos hS1, if_pos rfl]
            have k3 := k3 hS1
            have lB : z + (ts ++ (S.2.2 ++ [-(c p)])).length = z + ts.length + S.2.2.length + 1 := by
              simp only [List.length_append, List.length_cons, List.length_nil]
              omega
            have sB : stM (g_add i2 (z + ts.length + S.2.2.length) (nI m) 0) (130 + z) (ts ++ (S.2.2 ++ [-(c p)])) := by
              refine stM.app (f7.fr (fun k hk => ?_)) (stM.app (stM.fr (i := i2) (by rw [show 130 + z + ts.length = 130 + (z + ts.length) by omega]; exact b7) (fun k hk => g_add_lo (by omega))) (stM.one ?_ ?_))
              · have h1 := g_add_lo (I := i2) (z := z + ts.length + S.2.2.length) (x := nI m) (v := 0) (k := k) (by omega)
                have h2 := b1.2.2 k (by omega)
                rw [h1.1, h1.2, h2.1, h2.2, xu_row (by decide), xu_row (by decide)]
                exact ⟨rfl, rfl⟩
              · rw [show 130 + z + ts.length + S.2.2.length = 130 + (z + ts.length + S.2.2.length) by omega, g_add_at.1, ea, em]
              · rw [show 130 + z + ts.length + S.2.2.length = 130 + (z + ts.length + S.2.2.length) by omega, g_add_at.2, ew]
            have sa := s_X12_addStep (J := J) (z := z + ts.length + S.2.2.length) (m := m) (by omega) b6 hm 0
            have post : mR I J z p0 (6 - k) (true, S.2.1, ts ++ (S.2.2 ++ [-(c p)])) none xG1 (g_add i2 (z + ts.length + S.2.2.length) (nI m) 0) J := ⟨rfl, rfl, rfl, g_add_F hIi (by omega), by rw [g_add_57 (by decide)]; exact b2, Or.inl ⟨rfl, by rw [g_add_57 (by decide)]; exact b4, by rw [g_add_57 (by decide)]; exact b5, by rw [g_add_21, lB], sB⟩⟩
            rw [← elp] at sa post
            refine iX12_compared_49 (iX12_compared_50 (iX12_compared_51 (iX12_compared_52 sa (hdd := by omega) (iX12_compared_55 ?_))))
            exact post
          · rw [if_neg (by rw [hS1]; decide)]
            have sa := s_X12_addStep (J := J) (I := i2) (z := z') (m := m) (by omega) b7 hm 0
            rw [← elp] at sa
            refine iX12_compared_49 (iX12_compared_50 (iX12_compared_51 (iX12_compared_52 sa (hdd := by omega) (iX12_compared_55 ?_))))
            exact ⟨rfl, rfl, rfl, g_add_F hIi (by omega), by rw [g_add_57 (by decide)]; exact b2, Or.inr ⟨rfl, by rw [g_add_57 (by decide)]; exact b4, z' + 1, by omega, by simp only; omega, g_add_21⟩⟩
        have tail : WP (D + 1) (1000000, 0, 0) none M_X12_compared (mR I J z p0 (6 - k) (if S.1 = true then (if 2 = 2 then (true, S.2.1, ts ++ (S.2.2 ++ [-(c p)])) else pLoop c 2 (levN c (opd c k) 2) 120 S.2.1 (ts ++ (S.2.2 ++ [-(c p)]))) else (false, S.2.1, []))) 35 [some (.ref 57), some (.int (l p))] [] xG1 i J := by
          refine iX12_compared_35 (iX12_compared_36 (iX12_compared_37 ?_))
          rw [f2]
          refine iX12_compared_40 (iX12_compared_41 ?_)
          rw [ep]
          refine iX12_compared_42 (iX12_compared_45 (jX12_compared_46 sp2 (hdd := by omega) (fun r46 g46 I46 J46 hq => ?_)))
          have hq2 := hq
          obtain ⟨rfl, rfl, rfl, -⟩ := hq
          exact after2 _ hq2
        refine iX12_compared_4 (iX12_compared_5 slook (hdd := by omega) (iX12_compared_8 (iX12_compared_9 (iX12_compared_10 ?_))))
        rw [f4]
        refine iX12_compared_13 (fun h13 => absurd h13 ((by decide : ¬ (0 : Int32) ≤ -1))) (fun h13 => ?_)
        refine iX12_compared_16 (iX12_compared_17 (iX12_compared_19 (fun h19 => ?_) (fun h19 => ?_)))
        · exact tail
        · refine iX12_compared_22 (iX12_compared_23 (iX12_compared_25 (fun h25 => ?_) (fun h25 => ?_)))
          · exact tail
          · refine iX12_compared_28 (iX12_compared_29 (iX12_compared_31 (fun h31 => ?_) (fun h31 => ?_)))
            · exact tail
            · exfalso
              rcases lv_2.mp q with w | w | w
              · exact h19 ((t4.eq p (by decide) (by decide)).mpr w)
              · exact h25 ((t4.eq p (by decide) (by decide)).mpr w)
              · exact h31 ((t4.eq p (by decide) (by decide)).mpr w)
      · rw [if_neg q]
        refine iX12_compared_4 (iX12_compared_5 slook (hdd := by omega) (iX12_compared_8 (iX12_compared_9 (iX12_compared_10 ?_))))
        rw [f4]
        refine iX12_compared_13 (fun h13 => absurd h13 ((by decide : ¬ (0 : Int32) ≤ -1))) (fun h13 => ?_)
        refine iX12_compared_16 (iX12_compared_17 (iX12_compared_19 (fun h19 => ?_) (fun h19 => ?_)))
        · exfalso
          first | exact q (lv_2.mpr (Or.inl ((t4.eq p (by decide) (by decide)).mp h19))) | exact q (lv_2.mpr (Or.inr (Or.inl ((t4.eq p (by decide) (by decide)).mp h25)))) | exact q (lv_2.mpr (Or.inr (Or.inr ((t4.eq p (by decide) (by decide)).mp h31))))
        · refine iX12_compared_22 (iX12_compared_23 (iX12_compared_25 (fun h25 => ?_) (fun h25 => ?_)))
          · exfalso
            first | exact q (lv_2.mpr (Or.inl ((t4.eq p (by decide) (by decide)).mp h19))) | exact q (lv_2.mpr (Or.inr (Or.inl ((t4.eq p (by decide) (by decide)).mp h25)))) | exact q (lv_2.mpr (Or.inr (Or.inr ((t4.eq p (by decide) (by decide)).mp h31))))
          · refine iX12_compared_28 (iX12_compared_29 (iX12_compared_31 (fun h31 => ?_) (fun h31 => ?_)))
            · exfalso
              first | exact q (lv_2.mpr (Or.inl ((t4.eq p (by decide) (by decide)).mp h19))) | exact q (lv_2.mpr (Or.inr (Or.inl ((t4.eq p (by decide) (by decide)).mp h25)))) | exact q (lv_2.mpr (Or.inr (Or.inr ((t4.eq p (by decide) (by decide)).mp h31))))
            · refine iX12_compared_34 ?_
              exact ⟨rfl, rfl, rfl, f1, f2, Or.inl ⟨rfl, f4, f5, f6, f7⟩⟩
    · rw [if_neg (by rw [hS1]; decide)]
      refine iX12_compared_4 (iX12_compared_5 slook (hdd := by omega) (iX12_compared_8 (iX12_compared_9 (iX12_compared_10 ?_))))
      rw [f4]
      refine iX12_compared_13 (fun h13 => ?_) (fun h13 => by first | exact absurd (nI_pos' (by omega)) h13 | exact absurd h13 (nI_pos' (by omega)))
      refine iX12_compared_34 ?_
      exact ⟨rfl, rfl, rfl, f1, f2, Or.inr ⟨rfl, f4, z', f5, f6, f7⟩⟩
  refine iX12_compared_0 (jX12_compared_1 sp (hdd := by omega) (fun r1 g1 I1 J1 hq => ?_))
  have hq2 := hq
  obtain ⟨rfl, rfl, rfl, -⟩ := hq
  exact after _ hq2
theorem m_loop_both (hlN : byT l n) {k D : Nat} (hX : MX c l n J M_X12_compared D k 3) {I0 : xI} {z0 p0 : Nat} (hz0 : z0 ≤ p0) : ∀ (f p : Nat) (ts : List Int32) (I : xI), n < p + f → mF I0 I z0 → TpM c l n I p (z0 + ts.length) (6 - k) → ts.length + p0 ≤ p → stM I (130 + z0) ts → WP (D + 1) (1000000, 0, 0) none M_X12_both (mR I0 J z0 p0 (6 - k) (pLoop c 1 (levN c (opd c k) 3) f p ts)) 4 [some (.ref 57)] [] xG1 I J := by
  intro f
  induction f with
  | zero =>
    intro p ts I hf hI hT hz hs
    have := hT.2.2.2.2.2.2.1
    omega
  | succ f ih =>
    intro p ts I hf hI hT hz hs
    obtain ⟨t1, t2, t3, t4, t5, t6, t7, t8, t9, t10⟩ := id hT
    rw [pLoop_s]
    by_cases q : lvI (c p) = nI 1
    · rw [if_pos q]
      have hp1 := byT_lt t3 (lvI_ne (by omega) q)
      have ep : nI p + 1 = nI (p + 1) := nI_1 _
      obtain ⟨m, hm, em, ea, ew⟩ := sign_is (by omega) q
      have elp : l p = nI m := by rw [← em]; exact (t4.eq p (by rw [em]; exact nI_pos' (by omega)) (by rw [em]; exact nI_lt (b := 128) hm (by omega))).mpr rfl
      have hTa : TpM c l n (xu I 57 18 (nI (p + 1))) (p + 1) (z0 + ts.length) (6 - k) := hT.fr (mF.rf.up57 (z := z0) (by decide)) xu_eq (by omega) (by rw [xu_col (by decide)]; exact t8) (by rw [xu_col (by decide)]; exact t9) (by rw [xu_col (by decide)]; exact t10)
      have hIa : mF I0 (xu I 57 18 (nI (p + 1))) z0 := hI.up57 (by decide)
      have sp := hX (xu I 57 18 (nI (p + 1))) (p + 1) (z0 + ts.length) hTa (by omega)
      have g := levN_ok t3 (opd_ok t3 k) 3 (p + 1) (by omega) _ _ _ (pR_eta _)
      generalize levN c (opd c k) 3 (p + 1) = S at *
      obtain ⟨g1, g2, g3, g4⟩ := g
      have after : ∀ (i : xI), mR (xu I 57 18 (nI (p + 1))) J (z0 + ts.length) (p + 1) (6 - k) S none xG1 i J → WP (D + 1) (1000000, 0, 0) none M_X12_both (mR I0 J z0 p0 (6 - k) (if S.1 = true then (if 1 = 2 then (true, S.2.1, ts ++ (S.2.2 ++ [-(c p)])) else pLoop c 1 (levN c (opd c k) 3) f S.2.1 (ts ++ (S.2.2 ++ [-(c p)]))) else (false, S.2.1, []))) 34 [some (.ref 57)] [] xG1 i J := by
        intro i hv
        obtain ⟨-, -, -, f1, f2, f3⟩ := hv
        have hIi := hIa.tr f1 (by omega)
        rcases f3 with ⟨hS1, f4, f5, f6, f7⟩ | ⟨hS1, f4, z', f5, f6, f7⟩
        · rw [if_pos hS1, if_neg (by decide)]
          have g3 := g3 hS1
          have hTi : TpM c l n i S.2.1 (z0 + ts.length + S.2.2.length) (6 - k) := hTa.fr f1 f2 g2 f4 f5 f6
          have lB : z0 + (ts ++ (S.2.2 ++ [-(c p)])).length = z0 + ts.length + S.2.2.length + 1 := by
            simp only [List.length_append, List.length_cons, List.length_nil]
            omega
          have sB : stM (g_add i (z0 + ts.length + S.2.2.length) (nI m) 0) (130 + z0) (ts ++ (S.2.2 ++ [-(c p)])) := by
            refine stM.app (hs.fr (fun k hk => ?_)) (stM.app (stM.fr (i := i) (by rw [show 130 + z0 + ts.length = 130 + (z0 + ts.length) by omega]; exact f7) (fun k hk => g_add_lo (by omega))) (stM.one ?_ ?_))
            · have h1 := g_add_lo (I := i) (z := z0 + ts.length + S.2.2.length) (x := nI m) (v := 0) (k := k) (by omega)
              have h2 := f1.2.2 k (by omega)
              rw [h1.1, h1.2, h2.1, h2.2, xu_row (by decide), xu_row (by decide)]
              exact ⟨rfl, rfl⟩
            · rw [show 130 + z0 + ts.length + S.2.2.length = 130 + (z0 + ts.length + S.2.2.length) by omega, g_add_at.1, ea, em]
            · rw [show 130 + z0 + ts.length + S.2.2.length = 130 + (z0 + ts.length + S.2.2.length) by omega, g_add_at.2, ew]
          have hTB : TpM c l n (g_add i (z0 + ts.length + S.2.2.length) (nI m) 0) S.2.1 (z0 + (ts ++ (S.2.2 ++ [-(c p)])).length) (6 - k) := by
            rw [lB]
            exact hTi.fr (g_add_F mF.rf (Nat.le_refl _)) (by rw [g_add_57 (by decide)]; exact f2) g2 (by rw [g_add_57 (by decide)]; exact f4) (by rw [g_add_57 (by decide)]; exact f5) g_add_21
          have sa := s_X12_addStep (J := J) (z := z0 + ts.length + S.2.2.length) (m := m) (by omega) f6 hm 0
          rw [← em, show c p = 38 from lv_1.mp q] at sa
          have hh := ih S.2.1 (ts ++ (S.2.2 ++ [-(c p)])) (g_add i (z0 + ts.length + S.2.2.length) (nI m) 0) (by omega) (g_add_F hIi (by omega)) hTB (by simp only [List.length_append, List.length_cons, List.length_nil]; omega) sB
          refine iX12_both_34 (iX12_both_35 (iX12_both_37 (iX12_both_38 sa (hdd := by omega) (iX12_both_41 ?_))))
          rw [show nI m = 38 from em.symm.trans (lv_1.mp q)] at hh
          exact hh
        · rw [if_neg (by rw [hS1]; decide)]
          have sa := s_X12_addStep (J := J) (I := i) (z := z') (m := m) (by omega) f7 hm 0
          rw [← em, show c p = 38 from lv_1.mp q] at sa
          refine iX12_both_34 (iX12_both_35 (iX12_both_37 (iX12_both_38 sa (hdd := by omega) (iX12_both_41 (iX12_both_4 (iX12_both_5 ?_))))))
          rw [g_add_57 (by decide), f4]
          refine iX12_both_8 (fun h8 => ?_) (fun h8 => by first | exact absurd (nI_pos' (by omega)) h8 | exact absurd h8 (nI_pos' (by omega)))
          refine iX12_both_44 ?_
          exact ⟨rfl, rfl, rfl, g_add_F hIi (by omega), by rw [g_add_57 (by decide)]; exact f2, Or.inr ⟨rfl, by rw [g_add_57 (by decide)]; exact f4, z' + 1, by omega, by simp only; omega, g_add_21⟩⟩
      have tail : WP (D + 1) (1000000, 0, 0) none M_X12_both (mR I0 J z0 p0 (6 - k) (if S.1 = true then (if 1 = 2 then (true, S.2.1, ts ++ (S.2.2 ++ [-(c p)])) else pLoop c 1 (levN c (opd c k) 3) f S.2.1 (ts ++ (S.2.2 ++ [-(c p)]))) else (false, S.2.1, []))) 20 [some (.ref 57)] [] xG1 I J := by
        refine iX12_both_20 (iX12_both_21 (iX12_both_22 ?_))
        rw [t6]
        refine iX12_both_25 (iX12_both_26 ?_)
        rw [ep]
        refine iX12_both_27 (iX12_both_30 (jX12_both_31 sp (hdd := by omega) (fun r31 g31 I31 J31 hq => ?_)))
        have hq2 := hq
        obtain ⟨rfl, rfl, rfl, -⟩ := hq
        exact after _ hq2
      refine iX12_both_4 (iX12_both_5 ?_)
      rw [t8]
      refine iX12_both_8 (fun h8 => absurd h8 ((by decide : ¬ (0 : Int32) ≤ -1))) (fun h8 => ?_)
      refine iX12_both_11 (iX12_both_12 (s_X12_look hlN hT) (hdd := by omega) (iX12_both_15 (iX12_both_17 (fun h17 => ?_) (fun h17 => ?_))))
      · exfalso
        exact h17 ((t4.eq p (by decide) (by decide)).mpr (lv_1.mp q))
      · exact tail
    · rw [if_neg q]
      refine iX12_both_4 (iX12_both_5 ?_)
      rw [t8]
      refine iX12_both_8 (fun h8 => absurd h8 ((by decide : ¬ (0 : Int32) ≤ -1))) (fun h8 => ?_)
      refine iX12_both_11 (iX12_both_12 (s_X12_look hlN hT) (hdd := by omega) (iX12_both_15 (iX12_both_17 (fun h17 => ?_) (fun h17 => ?_))))
      · refine iX12_both_44 ?_
        exact ⟨rfl, rfl, rfl, hI, t6, Or.inl ⟨rfl, t8, t9, t10, hs⟩⟩
      · exfalso
        first | exact q (lv_1.mpr ((t4.eq p (by decide) (by decide)).mp h17))
theorem m_both (hlN : byT l n) {k D : Nat} (hX : MX c l n J M_X12_compared D k 3) : MX c l n J M_X12_both (D + 1) k 4 := by
  intro I p z hT hz
  obtain ⟨t1, t2, t3, t4, t5, t6, t7, t8, t9, t10⟩ := id hT
  have g := levN_ok t3 (opd_ok t3 k) 3 p t7 _ _ _ (pR_eta _)
  have sp := hX I p z hT hz
  have eP : levN c (opd c k) 4 p = if (levN c (opd c k) 3 p).1 = true then pLoop c 1 (levN c (opd c k) 3) 121 (levN c (opd c k) 3 p).2.1 (levN c (opd c k) 3 p).2.2 else (false, (levN c (opd c k) 3 p).2.1, []) := rfl
  rw [eP]
  generalize hSe : levN c (opd c k) 3 p = S at *
  obtain ⟨g1, g2, g3, g4⟩ := g
  refine spec_of (L := [some (.ref 57)]) (by decide) (Nat.le_of_ble_eq_true rfl) rfl ?_
  have after : ∀ (i : xI), mR I J z p (6 - k) S none xG1 i J → WP (D + 1) (1000000, 0, 0) none M_X12_both (mR I J z p (6 - k) (if S.1 = true then pLoop c 1 (levN c (opd c k) 3) 121 S.2.1 S.2.2 else (false, S.2.1, []))) 4 [some (.ref 57)] [] xG1 i J := by
    intro i hv
    obtain ⟨-, -, -, f1, f2, f3⟩ := hv
    rcases f3 with ⟨hS1, f4, f5, f6, f7⟩ | ⟨hS1, f4, z', f5, f6, f7⟩
    · rw [if_pos hS1]
      have g3 := g3 hS1
      exact m_loop_both hlN hX hz 121 _ _ i (by omega) f1 (hT.fr f1 f2 g2 f4 f5 f6) (by omega) f7
    · rw [if_neg (by rw [hS1]; decide)]
      refine iX12_both_4 (iX12_both_5 ?_)
      rw [f4]
      refine iX12_both_8 (fun h8 => ?_) (fun h8 => by first | exact absurd (nI_pos' (by omega)) h8 | exact absurd h8 (nI_pos' (by omega)))
      refine iX12_both_44 ?_
      exact ⟨rfl, rfl, rfl, f1, f2, Or.inr ⟨rfl, f4, z', f5, f6, f7⟩⟩
  refine iX12_both_0 (jX12_both_1 sp (hdd := by omega) (fun r1 g1 I1 J1 hq => ?_))
  have hq2 := hq
  obtain ⟨rfl, rfl, rfl, -⟩ := hq
  exact after _ hq2
theorem m_loop_either (hlN : byT l n) {k D : Nat} (hX : MX c l n J M_X12_both D k 4) {I0 : xI} {z0 p0 : Nat} (hz0 : z0 ≤ p0) : ∀ (f p : Nat) (ts : List Int32) (I : xI), n < p + f → mF I0 I z0 → TpM c l n I p (z0 + ts.length) (6 - k) → ts.length + p0 ≤ p → stM I (130 + z0) ts → WP (D + 1) (1000000, 0, 0) none M_X12_either (mR I0 J z0 p0 (6 - k) (pLoop c 0 (levN c (opd c k) 4) f p ts)) 4 [some (.ref 57)] [] xG1 I J := by
  intro f
  induction f with
  | zero =>
    intro p ts I hf hI hT hz hs
    have := hT.2.2.2.2.2.2.1
    omega
  | succ f ih =>
    intro p ts I hf hI hT hz hs
    obtain ⟨t1, t2, t3, t4, t5, t6, t7, t8, t9, t10⟩ := id hT
    rw [pLoop_s]
    by_cases q : lvI (c p) = nI 0
    · rw [if_pos q]
      have hp1 := byT_lt t3 (lvI_ne (by omega) q)
      have ep : nI p + 1 = nI (p + 1) := nI_1 _
      obtain ⟨m, hm, em, ea, ew⟩ := sign_is (by omega) q
      have elp : l p = nI m := by rw [← em]; exact (t4.eq p (by rw [em]; exact nI_pos' (by omega)) (by rw [em]; exact nI_lt (b := 128) hm (by omega))).mpr rfl
      have hTa : TpM c l n (xu I 57 18 (nI (p + 1))) (p + 1) (z0 + ts.length) (6 - k) := hT.fr (mF.rf.up57 (z := z0) (by decide)) xu_eq (by omega) (by rw [xu_col (by decide)]; exact t8) (by rw [xu_col (by decide)]; exact t9) (by rw [xu_col (by decide)]; exact t10)
      have hIa : mF I0 (xu I 57 18 (nI (p + 1))) z0 := hI.up57 (by decide)
      have sp := hX (xu I 57 18 (nI (p + 1))) (p + 1) (z0 + ts.length) hTa (by omega)
      have g := levN_ok t3 (opd_ok t3 k) 4 (p + 1) (by omega) _ _ _ (pR_eta _)
      generalize levN c (opd c k) 4 (p + 1) = S at *
      obtain ⟨g1, g2, g3, g4⟩ := g
      have after : ∀ (i : xI), mR (xu I 57 18 (nI (p + 1))) J (z0 + ts.length) (p + 1) (6 - k) S none xG1 i J → WP (D + 1) (1000000, 0, 0) none M_X12_either (mR I0 J z0 p0 (6 - k) (if S.1 = true then (if 0 = 2 then (true, S.2.1, ts ++ (S.2.2 ++ [-(c p)])) else pLoop c 0 (levN c (opd c k) 4) f S.2.1 (ts ++ (S.2.2 ++ [-(c p)]))) else (false, S.2.1, []))) 34 [some (.ref 57)] [] xG1 i J := by
        intro i hv
        obtain ⟨-, -, -, f1, f2, f3⟩ := hv
        have hIi := hIa.tr f1 (by omega)
        rcases f3 with ⟨hS1, f4, f5, f6, f7⟩ | ⟨hS1, f4, z', f5, f6, f7⟩
        · rw [if_pos hS1, if_neg (by decide)]
          have g3 := g3 hS1
          have hTi : TpM c l n i S.2.1 (z0 + ts.length + S.2.2.length) (6 - k) := hTa.fr f1 f2 g2 f4 f5 f6
          have lB : z0 + (ts ++ (S.2.2 ++ [-(c p)])).length = z0 + ts.length + S.2.2.length + 1 := by
            simp only [List.length_append, List.length_cons, List.length_nil]
            omega
          have sB : stM (g_add i (z0 + ts.length + S.2.2.length) (nI m) 0) (130 + z0) (ts ++ (S.2.2 ++ [-(c p)])) := by
            refine stM.app (hs.fr (fun k hk => ?_)) (stM.app (stM.fr (i := i) (by rw [show 130 + z0 + ts.length = 130 + (z0 + ts.length) by omega]; exact f7) (fun k hk => g_add_lo (by omega))) (stM.one ?_ ?_))
            · have h1 := g_add_lo (I := i) (z := z0 + ts.length + S.2.2.length) (x := nI m) (v := 0) (k := k) (by omega)
              have h2 := f1.2.2 k (by omega)
              rw [h1.1, h1.2, h2.1, h2.2, xu_row (by decide), xu_row (by decide)]
              exact ⟨rfl, rfl⟩
            · rw [show 130 + z0 + ts.length + S.2.2.length = 130 + (z0 + ts.length + S.2.2.length) by omega, g_add_at.1, ea, em]
            · rw [show 130 + z0 + ts.length + S.2.2.length = 130 + (z0 + ts.length + S.2.2.length) by omega, g_add_at.2, ew]
          have hTB : TpM c l n (g_add i (z0 + ts.length + S.2.2.length) (nI m) 0) S.2.1 (z0 + (ts ++ (S.2.2 ++ [-(c p)])).length) (6 - k) := by
            rw [lB]
            exact hTi.fr (g_add_F mF.rf (Nat.le_refl _)) (by rw [g_add_57 (by decide)]; exact f2) g2 (by rw [g_add_57 (by decide)]; exact f4) (by rw [g_add_57 (by decide)]; exact f5) g_add_21
          have sa := s_X12_addStep (J := J) (z := z0 + ts.length + S.2.2.length) (m := m) (by omega) f6 hm 0
          rw [← em, show c p = 124 from lv_0.mp q] at sa
          have hh := ih S.2.1 (ts ++ (S.2.2 ++ [-(c p)])) (g_add i (z0 + ts.length + S.2.2.length) (nI m) 0) (by omega) (g_add_F hIi (by omega)) hTB (by simp only [List.length_append, List.length_cons, List.length_nil]; omega) sB
          refine iX12_either_34 (iX12_either_35 (iX12_either_37 (iX12_either_38 sa (hdd := by omega) (iX12_either_41 ?_))))
          rw [show nI m = 124 from em.symm.trans (lv_0.mp q)] at hh
          exact hh
        · rw [if_neg (by rw [hS1]; decide)]
          have sa := s_X12_addStep (J := J) (I := i) (z := z') (m := m) (by omega) f7 hm 0
          rw [← em, show c p = 124 from lv_0.mp q] at sa
          refine iX12_either_34 (iX12_either_35 (iX12_either_37 (iX12_either_38 sa (hdd := by omega) (iX12_either_41 (iX12_either_4 (iX12_either_5 ?_))))))
          rw [g_add_57 (by decide), f4]
          refine iX12_either_8 (fun h8 => ?_) (fun h8 => by first | exact absurd (nI_pos' (by omega)) h8 | exact absurd h8 (nI_pos' (by omega)))
          refine iX12_either_44 ?_
          exact ⟨rfl, rfl, rfl, g_add_F hIi (by omega), by rw [g_add_57 (by decide)]; exact f2, Or.inr ⟨rfl, by rw [g_add_57 (by decide)]; exact f4, z' + 1, by omega, by simp only; omega, g_add_21⟩⟩
      have tail : WP (D + 1) (1000000, 0, 0) none M_X12_either (mR I0 J z0 p0 (6 - k) (if S.1 = true then (if 0 = 2 then (true, S.2.1, ts ++ (S.2.2 ++ [-(c p)])) else pLoop c 0 (levN c (opd c k) 4) f S.2.1 (ts ++ (S.2.2 ++ [-(c p)]))) else (false, S.2.1, []))) 20 [some (.ref 57)] [] xG1 I J := by
        refine iX12_either_20 (iX12_either_21 (iX12_either_22 ?_))
        rw [t6]
        refine iX12_either_25 (iX12_either_26 ?_)
        rw [ep]
        refine iX12_either_27 (iX12_either_30 (jX12_either_31 sp (hdd := by omega) (fun r31 g31 I31 J31 hq => ?_)))
        have hq2 := hq
        obtain ⟨rfl, rfl, rfl, -⟩ := hq
        exact after _ hq2
      refine iX12_either_4 (iX12_either_5 ?_)
      rw [t8]
      refine iX12_either_8 (fun h8 => absurd h8 ((by decide : ¬ (0 : Int32) ≤ -1))) (fun h8 => ?_)
      refine iX12_either_11 (iX12_either_12 (s_X12_look hlN hT) (hdd := by omega) (iX12_either_15 (iX12_either_17 (fun h17 => ?_) (fun h17 => ?_))))
      · exfalso
        exact h17 ((t4.eq p (by decide) (by decide)).mpr (lv_0.mp q))
      · exact tail
    · rw [if_neg q]
      refine iX12_either_4 (iX12_either_5 ?_)
      rw [t8]
      refine iX12_either_8 (fun h8 => absurd h8 ((by decide : ¬ (0 : Int32) ≤ -1))) (fun h8 => ?_)
      refine iX12_either_11 (iX12_either_12 (s_X12_look hlN hT) (hdd := by omega) (iX12_either_15 (iX12_either_17 (fun h17 => ?_) (fun h17 => ?_))))
      · refine iX12_either_44 ?_
        exact ⟨rfl, rfl, rfl, hI, t6, Or.inl ⟨rfl, t8, t9, t10, hs⟩⟩
      · exfalso
        first | exact q (lv_0.mpr ((t4.eq p (by decide) (by decide)).mp h17))
theorem m_either (hlN : byT l n) {k D : Nat} (hX : MX c l n J M_X12_both D k 4) : MX c l n J M_X12_either (D + 1) k 5 := by
  intro I p z hT hz
  obtain ⟨t1, t2, t3, t4, t5, t6, t7, t8, t9, t10⟩ := id hT
  have g := levN_ok t3 (opd_ok t3 k) 4 p t7 _ _ _ (pR_eta _)
  have sp := hX I p z hT hz
  have eP : levN c (opd c k) 5 p = if (levN c (opd c k) 4 p).1 = true then pLoop c 0 (levN c (opd c k) 4) 121 (levN c (opd c k) 4 p).2.1 (levN c (opd c k) 4 p).2.2 else (false, (levN c (opd c k) 4 p).2.1, []) := rfl
  rw [eP]
  generalize hSe : levN c (opd c k) 4 p = S at *
  obtain ⟨g1, g2, g3, g4⟩ := g
  refine spec_of (L := [some (.ref 57)]) (by decide) (Nat.le_of_ble_eq_true rfl) rfl ?_
  have after : ∀ (i : xI), mR I J z p (6 - k) S none xG1 i J → WP (D + 1) (1000000, 0, 0) none M_X12_either (mR I J z p (6 - k) (if S.1 = true then pLoop c 0 (levN c (opd c k) 4) 121 S.2.1 S.2.2 else (false, S.2.1, []))) 4 [some (.ref 57)] [] xG1 i J := by
    intro i hv
    obtain ⟨-, -, -, f1, f2, f3⟩ := hv
    rcases f3 with ⟨hS1, f4, f5, f6, f7⟩ | ⟨hS1, f4, z', f5, f6, f7⟩
    · rw [if_pos hS1]
      have g3 := g3 hS1
      exact m_loop_either hlN hX hz 121 _ _ i (by omega) f1 (hT.fr f1 f2 g2 f4 f5 f6) (by omega) f7
    · rw [if_neg (by rw [hS1]; decide)]
      refine iX12_either_4 (iX12_either_5 ?_)
      rw [f4]
      refine iX12_either_8 (fun h8 => ?_) (fun h8 => by first | exact absurd (nI_pos' (by omega)) h8 | exact absurd h8 (nI_pos' (by omega)))
      refine iX12_either_44 ?_
      exact ⟨rfl, rfl, rfl, f1, f2, Or.inr ⟨rfl, f4, z', f5, f6, f7⟩⟩
  refine iX12_either_0 (jX12_either_1 sp (hdd := by omega) (fun r1 g1 I1 J1 hq => ?_))
  have hq2 := hq
  obtain ⟨rfl, rfl, rfl, -⟩ := hq
  exact after _ hq2
end
