/-! ===== the class's lines and texts ===== -/
noncomputable def pLine (c : Nat → Int32) (p : Nat) : Bool × Nat × (List Int32 × List Int32) := if (pEx c p).1 = true then (if c (pEx c p).2.1 = 63 then (if (pEx c ((pEx c p).2.1 + 1)).1 = true then (true, (pEx c ((pEx c p).2.1 + 1)).2.1, ((pEx c p).2.2, (pEx c ((pEx c p).2.1 + 1)).2.2)) else (false, (pEx c ((pEx c p).2.1 + 1)).2.1, ([], []))) else (true, (pEx c p).2.1, ([], (pEx c p).2.2))) else (false, (pEx c p).2.1, ([], []))
def tokL (l : List Int32 × List Int32) : List Int32 := (if l.1 = [] then [] else l.1 ++ [-63]) ++ l.2
noncomputable def pText (c : Nat → Int32) (n : Nat) : Nat → Nat → lwT → Bool × Nat × lwT
  | 0, p, _ => (false, p, [])
  | f + 1, p, ls => if (pLine c p).1 = true then (if c (pLine c p).2.1 = 59 then pText c n f ((pLine c p).2.1 + 1) (ls ++ [(pLine c p).2.2]) else if (pLine c p).2.1 < n then (false, (pLine c p).2.1, []) else (true, (pLine c p).2.1, ls ++ [(pLine c p).2.2])) else (false, (pLine c p).2.1, [])
theorem pEx_ok {c : Nat → Int32} {n : Nat} (h : byT c n) : okP n (pEx c) := levN_ok h (opd_ok h 6) 5
theorem pLine_ok {c : Nat → Int32} {n : Nat} (h : byT c n) {p : Nat} (hp : p ≤ n) : p ≤ (pLine c p).2.1 ∧ (pLine c p).2.1 ≤ n ∧ ((pLine c p).1 = true → p < (pLine c p).2.1 ∧ (tokL (pLine c p).2.2).length + p ≤ (pLine c p).2.1 ∧ ((pLine c p).2.2.1 = [] ∨ okE (pLine c p).2.2.1) ∧ okE (pLine c p).2.2.2 ∧ (pLine c p).2.2.1.length + (pLine c p).2.2.2.length + p ≤ (pLine c p).2.1) := by
  have g := pEx_ok h p hp _ _ _ (pR_eta _)
  unfold pLine
  by_cases h1 : (pEx c p).1 = true
  · rw [if_pos h1]
    have g3 := g.2.2.1 h1
    have e1 := pEx_okE h hp (show pEx c p = (true, (pEx c p).2.1, (pEx c p).2.2) by rw [← h1])
    by_cases h2 : c (pEx c p).2.1 = 63
    · rw [if_pos h2]
      have hq : (pEx c p).2.1 < n := byT_lt h (fun z => by rw [z] at h2; revert h2; decide)
      have k := pEx_ok h ((pEx c p).2.1 + 1) (by omega) _ _ _ (pR_eta _)
      by_cases h3 : (pEx c ((pEx c p).2.1 + 1)).1 = true
      · rw [if_pos h3]
        dsimp only
        have k3 := k.2.2.1 h3
        have e2 := pEx_okE h (show (pEx c p).2.1 + 1 ≤ n by omega) (show pEx c ((pEx c p).2.1 + 1) = (true, (pEx c ((pEx c p).2.1 + 1)).2.1, (pEx c ((pEx c p).2.1 + 1)).2.2) by rw [← h3])
        refine ⟨by omega, k.2.1, fun _ => ⟨by omega, ?_, Or.inr e1.1, e2.1, by omega⟩⟩
        unfold tokL
        rw [if_neg e1.2]
        simp only [List.length_append, List.length_cons, List.length_nil]
        omega
      · rw [if_neg h3]
        dsimp only
        exact ⟨by omega, k.2.1, fun z => by cases z⟩
    · rw [if_neg h2]
      refine ⟨g.1, g.2.1, fun _ => ⟨g3.1, ?_, Or.inl rfl, e1.1, by simp only [List.length_nil]; omega⟩⟩
      unfold tokL
      rw [if_pos rfl, List.nil_append]
      exact g3.2
  · rw [if_neg h1]
    exact ⟨g.1, g.2.1, fun z => by cases z⟩
theorem lwC_app {ls : lwT} {l : List Int32 × List Int32} : lwClass (ls ++ [l]) = lwClass ls ++ (tokL l ++ [-59]) := by
  unfold lwClass tokL
  rw [List.flatMap_append]
  simp [List.append_assoc]
section
variable {J : xJ} {c : Nat → Int32} {n : Nat}
theorem s_X10_isLine {I : xI} {p z : Nat} (hT : TpC c n I p z) (hz : z ≤ p) : Spec 60 (1000000, 0, 0) M_X10_isLine [.ref 17] xG1 I J (cR I J c z ((pLine c p).1, (pLine c p).2.1, if (pLine c p).1 = true then tokL (pLine c p).2.2 else [])) := by
  obtain ⟨t1, t2, t3, t4, t5, t6, t7⟩ := id hT
  have g := pEx_ok t3 p t6 _ _ _ (pR_eta _)
  have e1 : (pEx c p).1 = true → okE (pEx c p).2.2 ∧ (pEx c p).2.2 ≠ [] := fun h1 => pEx_okE t3 t6 (show pEx c p = (true, (pEx c p).2.1, (pEx c p).2.2) by rw [← h1])
  have sp : Spec 58 (1000000, 0, 0) M_X10_isExpression [.ref 17, .int 0, .int 0] xG1 I J (cR I J c z (pEx c p)) := c_ex I p z hT hz
  have s2 : ∀ (i : xI) (p2 z2 : Nat), TpC c n i p2 z2 → z2 ≤ p2 → Spec 58 (1000000, 0, 0) M_X10_isExpression [.ref 17, .int 0, .int 0] xG1 i J (cR i J c z2 (pEx c p2)) := fun i p2 z2 h1 h2 => c_ex i p2 z2 h1 h2
  have eL : ∀ S : pR, pEx c p = S → ((pLine c p).1, (pLine c p).2.1, if (pLine c p).1 = true then tokL (pLine c p).2.2 else ([] : List Int32)) = if S.1 = true then (if c S.2.1 = 63 then (if (pEx c (S.2.1 + 1)).1 = true then (true, (pEx c (S.2.1 + 1)).2.1, tokL (S.2.2, (pEx c (S.2.1 + 1)).2.2)) else (false, (pEx c (S.2.1 + 1)).2.1, [])) else (true, S.2.1, S.2.2)) else (false, S.2.1, []) := by
    intro S hS
    unfold pLine
    rw [hS]
    by_cases q1 : S.1 = true
    · rw [if_pos q1, if_pos q1]
      by_cases q2 : c S.2.1 = 63
      · rw [if_pos q2, if_pos q2]
        by_cases q3 : (pEx c (S.2.1 + 1)).1 = true
        · rw [if_pos q3, if_pos q3]; rfl
        · rw [if_neg q3, if_neg q3]; rfl
      · rw [if_neg q2, if_neg q2]
        rfl
    · rw [if_neg q1, if_neg q1]; rfl
  rw [eL _ rfl]
  generalize pEx c p = S at *
  obtain ⟨g1, g2, g3, g4⟩ := g
  refine spec_of (L := [some (.ref 17)]) (by decide) (Nat.le_of_ble_eq_true rfl) rfl ?_
  have after : ∀ (i : xI) (v : Option Value), cR I J c z S v xG1 i J → WP 60 (1000000, 0, 0) none M_X10_isLine (cR I J c z (if S.1 = true then (if c S.2.1 = 63 then (if (pEx c (S.2.1 + 1)).1 = true then (true, (pEx c (S.2.1 + 1)).2.1, tokL (S.2.2, (pEx c (S.2.1 + 1)).2.2)) else (false, (pEx c (S.2.1 + 1)).2.1, [])) else (true, S.2.1, S.2.2)) else (false, S.2.1, []))) 6 [some (.ref 17)] (v.toList ++ []) xG1 i J := by
    intro i v hv
    obtain ⟨-, -, f2, f3, f4, f5⟩ := hv
    rcases f5 with ⟨hS1, rfl, a3, a4, a5⟩ | ⟨hS1, hv, z', hz', h4⟩
    · rw [if_pos hS1]
      have g3 := g3 hS1
      have hTi := hT.fr f2 f3 f4 g2 a3
      by_cases q : c S.2.1 = 63
      · rw [if_pos q]
        have hq1 : S.2.1 < n := byT_lt t3 (fun w => by rw [w] at q; revert q; decide)
        have ep : nI S.2.1 + 1 = nI (S.2.1 + 1) := nI_1 _
        have e19 : ∀ k, k < z + S.2.2.length → xu (xu (xu i 17 3 (nI (S.2.1 + 1))) 17 4 (nI (z + S.2.2.length + 1))) 19 (z + S.2.2.length) (-63) 19 k = i 19 k := fun k hk => by rw [xu_col (by omega), xu_row (by decide), xu_row (by decide)]
        have hTb : TpC c n (xu (xu (xu i 17 3 (nI (S.2.1 + 1))) 17 4 (nI (z + S.2.2.length + 1))) 19 (z + S.2.2.length) (-63)) (S.2.1 + 1) (z + S.2.2.length + 1) := hTi.fr (((xFr.rf.up (by decide)).up (by decide)).up (by decide)) (by rw [xu_row (by decide), xu_col (by decide), xu_col (by decide)]) (by rw [xu_row (by decide), xu_col (by decide), xu_eq]) (by omega) (by rw [xu_row (by decide), xu_eq])
        have sp2 := s2 _ _ _ hTb (by omega)
        have fin : ∀ (i2 : xI) (v : Option Value), cR (xu (xu (xu i 17 3 (nI (S.2.1 + 1))) 17 4 (nI (z + S.2.2.length + 1))) 19 (z + S.2.2.length) (-63)) J c (z + S.2.2.length + 1) (pEx c (S.2.1 + 1)) v xG1 i2 J → WP 60 (1000000, 0, 0) none M_X10_isLine (cR I J c z (if (pEx c (S.2.1 + 1)).1 = true then (true, (pEx c (S.2.1 + 1)).2.1, tokL (S.2.2, (pEx c (S.2.1 + 1)).2.2)) else (false, (pEx c (S.2.1 + 1)).2.1, []))) 44 [some (.ref 17)] (v.toList ++ []) xG1 i2 J := by
          intro i2 v hv
          have hv2 := cR_v hv
          have post : cR I J c z (if (pEx c (S.2.1 + 1)).1 = true then (true, (pEx c (S.2.1 + 1)).2.1, tokL (S.2.2, (pEx c (S.2.1 + 1)).2.2)) else (false, (pEx c (S.2.1 + 1)).2.1, [])) v xG1 i2 J := by
            obtain ⟨-, -, k2, k3, k4, k5⟩ := hv
            have kf : xFr [17, 19] I i2 := f2.tr ((((xFr.rf.up (by decide)).up (by decide)).up (by decide)).tr k2)
            have k3' : i2 17 2 = I 17 2 := k3.trans ((by rw [xu_row (by decide), xu_col (by decide), xu_col (by decide)] : _ = i 17 2).trans f3)
            rcases k5 with ⟨k6, rfl, b3, b4, b5⟩ | ⟨k6, k7⟩
            · rw [if_pos k6]
              refine ⟨rfl, rfl, kf, k3', k4, Or.inl ⟨rfl, rfl, ?_, ?_, fun k hk => ?_⟩⟩
              · rw [b3]
                unfold tokL
                rw [if_neg (e1 hS1).2]
                simp only [List.length_append, List.length_cons, List.length_nil]
                rw [show z + (S.2.2.length + (0 + 1) + (pEx c (S.2.1 + 1)).2.2.length) = z + S.2.2.length + 1 + (pEx c (S.2.1 + 1)).2.2.length by omega]
              · unfold tokL
                rw [if_neg (e1 hS1).2]
                refine st19.app (st19.app (A := S.2.2) (B := [-63]) (st19.fr a4 (fun k hk => ?_)) (st19.one ?_)) ?_
                · rw [b5 k (by omega), e19 k hk]
                · rw [b5 _ (by omega), xu_eq]
                · simp only [List.length_append, List.length_cons, List.length_nil]
                  exact b4
              · rw [b5 k (by omega), e19 k (by omega)]
                exact a5 k hk
            · rw [if_neg (by rw [k6]; decide)]
              exact ⟨rfl, rfl, kf, k3', k4, Or.inr ⟨rfl, k7⟩⟩
          obtain ⟨-, -, rfl | rfl⟩ := hv2
          · exact iX10_isLine_44 post
          · exact iX10_isLine_44 post
        refine iX10_isLine_6 (fun h6 => ?_) (fun h6 => by first | exact absurd ((by decide : ¬ (1 : Int32) = 0)) h6 | exact absurd h6 ((by decide : ¬ (1 : Int32) = 0)))
        refine iX10_isLine_11 (iX10_isLine_12 (s_X10_next hTi) (hdd := by omega) (iX10_isLine_15 (iX10_isLine_17 (fun h17 => ?_) (fun h17 => by first | exact absurd (q) h17 | exact absurd h17 (q)))))
        refine iX10_isLine_22 (iX10_isLine_23 (iX10_isLine_24 ?_))
        rw [f4]
        refine iX10_isLine_27 (iX10_isLine_28 ?_)
        rw [ep]
        refine iX10_isLine_29 (iX10_isLine_32 (iX10_isLine_33 (iX10_isLine_35 (s_X10_emit (J := J) (z := z + S.2.2.length) (by omega) (by rw [xu_col (by decide)]; exact a3) _) (hdd := by omega) (iX10_isLine_38 (iX10_isLine_39 (iX10_isLine_40 (jX10_isLine_41 sp2 (hdd := by omega) (fun r41 g41 I41 J41 hq => ?_))))))))
        have hq2 := hq
        obtain ⟨rfl, rfl, -⟩ := hq
        exact fin _ _ hq2
      · rw [if_neg q]
        refine iX10_isLine_6 (fun h6 => ?_) (fun h6 => by first | exact absurd ((by decide : ¬ (1 : Int32) = 0)) h6 | exact absurd h6 ((by decide : ¬ (1 : Int32) = 0)))
        refine iX10_isLine_11 (iX10_isLine_12 (s_X10_next hTi) (hdd := by omega) (iX10_isLine_15 (iX10_isLine_17 (fun h17 => absurd h17 (q)) (fun h17 => ?_))))
        refine iX10_isLine_20 (iX10_isLine_21 ?_)
        exact ⟨rfl, rfl, f2, f3, f4, Or.inl ⟨rfl, rfl, a3, a4, a5⟩⟩
    · rw [if_neg (by rw [hS1]; decide)]
      rcases hv with rfl | ⟨rfl, hdd⟩
      · refine iX10_isLine_6 (fun h6 => absurd h6 ((fun w => w rfl))) (fun h6 => ?_)
        refine iX10_isLine_9 (iX10_isLine_10 ?_)
        exact ⟨rfl, rfl, f2, f3, f4, Or.inr ⟨rfl, Or.inl rfl, z', hz', h4⟩⟩
      · have n17 : ¬ c S.2.1 = 63 := fun w => by rw [w] at hdd; exact absurd hdd.2 (by decide)
        refine iX10_isLine_6 (fun h6 => ?_) (fun h6 => by first | exact absurd ((by decide : ¬ (1 : Int32) = 0)) h6 | exact absurd h6 ((by decide : ¬ (1 : Int32) = 0)))
        refine iX10_isLine_11 (iX10_isLine_12 (s_X10_next (hT.fr f2 f3 f4 g2 h4)) (hdd := by omega) (iX10_isLine_15 (iX10_isLine_17 (fun h17 => absurd h17 (n17)) (fun h17 => ?_))))
        refine iX10_isLine_20 (iX10_isLine_21 ?_)
        exact ⟨rfl, rfl, f2, f3, f4, Or.inr ⟨rfl, Or.inr ⟨rfl, hdd⟩, z', hz', h4⟩⟩
  refine iX10_isLine_0 (iX10_isLine_1 (iX10_isLine_2 (jX10_isLine_3 sp (hdd := by omega) (fun r3 g3 I3 J3 hq => ?_))))
  have hq2 := hq
  obtain ⟨rfl, rfl, -⟩ := hq
  exact after _ _ hq2
def fltQ (I0 : xI) (J : xJ) (r : Bool × Nat × lwT) : xP := fun v g i j => g = xG1 ∧ j = J ∧ xFr [17, 19] I0 i ∧ i 17 2 = I0 17 2 ∧ ((r.1 = true ∧ v = some (.int (-1)) ∧ i 17 4 = nI (lwClass r.2.2).length ∧ st19 (i 19) 0 (lwClass r.2.2)) ∨ (r.1 = false ∧ v = some (.int (nI r.2.1))))
theorem c_text {I0 : xI} : ∀ (f i p : Nat) (ls : lwT) (I : xI), i + f = 100 → 2 * i ≤ p → xFr [17, 19] I0 I → I 17 2 = I0 17 2 → TpC c n I p (lwClass ls).length → (lwClass ls).length ≤ p → st19 (I 19) 0 (lwClass ls) → WP 62 (1000000, 0, 0) none M_X10_fault (fltQ I0 J (pText c n f p ls)) 12 [some (.ref 17), some (.int (nI i))] [] xG1 I J := by
  intro f
  induction f with
  | zero =>
    intro i p ls I hi hp hI h2 hT hl hs
    have := hT.2.2.2.2.2.1
    have := hT.2.1
    omega
  | succ f ih =>
    intro i p ls I hi hp hI h2 hT hl hs
    obtain ⟨t1, t2, t3, t4, t5, t6, t7⟩ := id hT
    have g := pLine_ok t3 t6
    have sp := s_X10_isLine (J := J) hT hl
    have eP : pText c n (f + 1) p ls = if (pLine c p).1 = true then (if c (pLine c p).2.1 = 59 then pText c n f ((pLine c p).2.1 + 1) (ls ++ [(pLine c p).2.2]) else if (pLine c p).2.1 < n then (false, (pLine c p).2.1, []) else (true, (pLine c p).2.1, ls ++ [(pLine c p).2.2])) else (false, (pLine c p).2.1, []) := rfl
    rw [eP]
    generalize pLine c p = S at *
    obtain ⟨g1, g2, g3⟩ := g
    have ei : nI i + (1) = nI (i + 1) := nI_1 _
    have after : ∀ (i1 : xI) (v : Option Value), cR I J c (lwClass ls).length (S.1, S.2.1, if S.1 = true then tokL S.2.2 else []) v xG1 i1 J → WP 62 (1000000, 0, 0) none M_X10_fault (fltQ I0 J (if S.1 = true then (if c S.2.1 = 59 then pText c n f (S.2.1 + 1) (ls ++ [S.2.2]) else if S.2.1 < n then (false, S.2.1, []) else (true, S.2.1, ls ++ [S.2.2])) else (false, S.2.1, []))) 22 [some (.ref 17), some (.int (nI i))] (v.toList ++ []) xG1 i1 J := by
      intro i1 v hv
      obtain ⟨-, -, f2, f3, f4, f5⟩ := hv
      have hI1 := hI.tr f2
      have h21 := f3.trans h2
      rcases f5 with ⟨hS1, rfl, a3, a4, a5⟩ | ⟨hS1, hv, z', hz', h4⟩
      · simp only at hS1 a3 a4
        rw [if_pos hS1]
        rw [if_pos hS1] at a3 a4
        obtain ⟨g3, g4, g5, g6, g7⟩ := g3 hS1
        have hTi := hT.fr f2 f3 f4 g2 a3
        have lB : (lwClass (ls ++ [S.2.2])).length = (lwClass ls).length + (tokL S.2.2).length + 1 := by
          rw [lwC_app]
          simp only [List.length_append, List.length_cons, List.length_nil]
          omega
        have sB : st19 (xu (xu i1 17 4 (nI ((lwClass ls).length + (tokL S.2.2).length + 1))) 19 ((lwClass ls).length + (tokL S.2.2).length) (-59) 19) 0 (lwClass (ls ++ [S.2.2])) := by
          rw [lwC_app]
          refine st19.app (hs.fr (fun k hk => ?_)) (st19.app (st19.fr (z := 0 + (lwClass ls).length) (A := tokL S.2.2) (r := i1 19) (by rw [Nat.zero_add]; exact a4) (fun k hk => ?_)) (st19.one ?_))
          · rw [xu_col (by omega), xu_row (by decide), a5 k (by omega)]
          · rw [xu_col (by omega), xu_row (by decide)]
          · rw [Nat.zero_add, xu_eq]
        have hTB : TpC c n (xu (xu i1 17 4 (nI ((lwClass ls).length + (tokL S.2.2).length + 1))) 19 ((lwClass ls).length + (tokL S.2.2).length) (-59)) S.2.1 (lwClass (ls ++ [S.2.2])).length := hTi.fr ((xFr.rf.up (by decide)).up (by decide)) (by rw [xu_row (by decide), xu_col (by decide)]) (by rw [xu_row (by decide), xu_col (by decide)]; exact f4) g2 (by rw [xu_row (by decide), xu_eq, lB])
        have hIB := (hI1.up (a := 17) (j := 4) (v := nI ((lwClass ls).length + (tokL S.2.2).length + 1)) (by decide)).up (a := 19) (j := (lwClass ls).length + (tokL S.2.2).length) (v := -59) (by decide)
        have h2B : xu (xu i1 17 4 (nI ((lwClass ls).length + (tokL S.2.2).length + 1))) 19 ((lwClass ls).length + (tokL S.2.2).length) (-59) 17 2 = I0 17 2 := by rw [xu_row (by decide), xu_col (by decide)]; exact h21
        have se := s_X10_emit (J := J) (I := i1) (z := (lwClass ls).length + (tokL S.2.2).length) (by omega) a3 (-59)
        generalize xu (xu i1 17 4 (nI ((lwClass ls).length + (tokL S.2.2).length + 1))) 19 ((lwClass ls).length + (tokL S.2.2).length) (-59) = IB at *
        by_cases q : c S.2.1 = 59
        · rw [if_pos q]
          have hq1 : S.2.1 < n := byT_lt t3 (fun w => by rw [w] at q; revert q; decide)
          have ep : nI S.2.1 + 1 = nI (S.2.1 + 1) := nI_1 _
          refine iX10_fault_22 (fun h22 => ?_) (fun h22 => by first | exact absurd ((by decide : ¬ (1 : Int32) = 0)) h22 | exact absurd h22 ((by decide : ¬ (1 : Int32) = 0)))
          refine iX10_fault_30 (iX10_fault_31 (iX10_fault_33 se (hdd := by omega) (iX10_fault_36 (iX10_fault_37 (s_X10_next hTB) (hdd := by omega) (iX10_fault_40 (iX10_fault_42 (fun h42 => ?_) (fun h42 => by first | exact absurd (q) h42 | exact absurd h42 (q))))))))
          refine iX10_fault_48 (iX10_fault_49 (iX10_fault_50 ?_))
          rw [hTB.2.2.2.2.1]
          refine iX10_fault_53 (iX10_fault_54 ?_)
          rw [ep]
          refine iX10_fault_55 (iX10_fault_58 (iX10_fault_61 ?_))
          rw [ei]
          exact ih (i + 1) (S.2.1 + 1) _ _ (by omega) (by omega) (hIB.up (by decide)) (by rw [xu_col (by decide)]; exact h2B) (hTB.fr (xFr.rf.up (by decide)) (xu_col (by decide)) xu_eq (by omega) (by rw [xu_col (by decide)]; exact hTB.2.2.2.2.2.2)) (by omega) (by rw [xu_rowf (by decide)]; exact sB)
        · rw [if_neg q]
          by_cases q2 : S.2.1 < n
          · rw [if_pos q2]
            refine iX10_fault_22 (fun h22 => ?_) (fun h22 => by first | exact absurd ((by decide : ¬ (1 : Int32) = 0)) h22 | exact absurd h22 ((by decide : ¬ (1 : Int32) = 0)))
            refine iX10_fault_30 (iX10_fault_31 (iX10_fault_33 se (hdd := by omega) (iX10_fault_36 (iX10_fault_37 (s_X10_next hTB) (hdd := by omega) (iX10_fault_40 (iX10_fault_42 (fun h42 => absurd h42 (q)) (fun h42 => ?_)))))))
            refine iX10_fault_45 (iX10_fault_64 (iX10_fault_65 (iX10_fault_68 (iX10_fault_69 ?_))))
            rw [hTB.2.2.2.2.1, hTB.1]
            refine iX10_fault_72 (fun h72 => absurd h72 (nI_ge q2 (by omega))) (fun h72 => ?_)
            refine iX10_fault_75 (iX10_fault_76 (iX10_fault_79 (iX10_fault_83 ?_)))
            exact ⟨rfl, rfl, hIB, h2B, Or.inr ⟨rfl, by rw [hTB.2.2.2.2.1]⟩⟩
          · rw [if_neg q2]
            refine iX10_fault_22 (fun h22 => ?_) (fun h22 => by first | exact absurd ((by decide : ¬ (1 : Int32) = 0)) h22 | exact absurd h22 ((by decide : ¬ (1 : Int32) = 0)))
            refine iX10_fault_30 (iX10_fault_31 (iX10_fault_33 se (hdd := by omega) (iX10_fault_36 (iX10_fault_37 (s_X10_next hTB) (hdd := by omega) (iX10_fault_40 (iX10_fault_42 (fun h42 => absurd h42 (q)) (fun h42 => ?_)))))))
            refine iX10_fault_45 (iX10_fault_64 (iX10_fault_65 (iX10_fault_68 (iX10_fault_69 ?_))))
            rw [hTB.2.2.2.2.1, hTB.1]
            refine iX10_fault_72 (fun h72 => ?_) (fun h72 => by first | exact absurd (nI_le (a := n) (b := S.2.1) (by omega) (by omega)) h72 | exact absurd h72 (nI_le (a := n) (b := S.2.1) (by omega) (by omega)))
            refine iX10_fault_82 (iX10_fault_83 ?_)
            exact ⟨rfl, rfl, hIB, h2B, Or.inl ⟨rfl, rfl, hTB.2.2.2.2.2.2, sB⟩⟩
      · simp only at hS1 hv f4
        rw [if_neg (by rw [hS1]; decide)]
        rcases hv with rfl | ⟨rfl, hdd⟩
        · refine iX10_fault_22 (fun h22 => absurd h22 ((fun w => w rfl))) (fun h22 => ?_)
          refine iX10_fault_25 (iX10_fault_26 (iX10_fault_29 ?_))
          exact ⟨rfl, rfl, hI1, h21, Or.inr ⟨rfl, by rw [f4]⟩⟩
        · have hq1 : S.2.1 < n := byT_lt t3 (fun w => by rw [w] at hdd; exact absurd hdd.1 (by decide))
          have n59 : ¬ c S.2.1 = 59 := fun w => by rw [w] at hdd; exact absurd hdd.2 (by decide)
          refine iX10_fault_22 (fun h22 => ?_) (fun h22 => by first | exact absurd ((by decide : ¬ (1 : Int32) = 0)) h22 | exact absurd h22 ((by decide : ¬ (1 : Int32) = 0)))
          refine iX10_fault_30 (iX10_fault_31 (jX10_fault_33 (s_X10_emit_any (J := J) hz' h4 _) (hdd := by omega) (fun r33 g33 I33 J33 hq => ?_)))
          obtain ⟨rfl, rfl, rfl, b1, b2, b3, z2, b4, b5⟩ := hq
          have hTe := (hT.fr f2 f3 f4 g2 h4).fr b1 b2 (b3.trans f4) g2 b5
          refine iX10_fault_36 (iX10_fault_37 (s_X10_next hTe) (hdd := by omega) (iX10_fault_40 (iX10_fault_42 (fun h42 => absurd h42 (n59)) (fun h42 => ?_))))
          refine iX10_fault_45 (iX10_fault_64 (iX10_fault_65 (iX10_fault_68 (iX10_fault_69 ?_))))
          rw [hTe.2.2.2.2.1, hTe.1]
          refine iX10_fault_72 (fun h72 => absurd h72 (nI_ge hq1 (by omega))) (fun h72 => ?_)
          refine iX10_fault_75 (iX10_fault_76 (iX10_fault_79 (iX10_fault_83 ?_)))
          exact ⟨rfl, rfl, hI1.tr b1, b2.trans h21, Or.inr ⟨rfl, by rw [hTe.2.2.2.2.1]⟩⟩
    refine iX10_fault_12 (iX10_fault_13 (iX10_fault_15 (fun h15 => absurd h15 (nI_nlt (a := 120) (b := i) (by omega) (by omega))) (fun h15 => ?_)))
    refine iX10_fault_18 (jX10_fault_19 sp (hdd := by omega) (fun r19 g19 I19 J19 hq => ?_))
    have hq2 := hq
    obtain ⟨rfl, rfl, -⟩ := hq
    exact after _ _ hq2
end
