/-! ===== the class's expressions ===== -/
def st19 (r : Nat → Int32) (z : Nat) (ts : List Int32) : Prop := ∀ (k : Nat) (t : Int32), ts[k]? = some t → r (z + k) = t
theorem st19.app {r : Nat → Int32} {z : Nat} {A B : List Int32} (h : st19 r z A) (h2 : st19 r (z + A.length) B) : st19 r z (A ++ B) := by
  intro k t hk
  by_cases q : k < A.length
  · rw [List.getElem?_append_left q] at hk; exact h k t hk
  · rw [List.getElem?_append_right (by omega)] at hk
    have := h2 _ t hk
    rw [show z + A.length + (k - A.length) = z + k by omega] at this
    exact this
theorem st19.fr {r r' : Nat → Int32} {z : Nat} {A : List Int32} (h : st19 r z A) (he : ∀ k, k < z + A.length → r' k = r k) : st19 r' z A := fun k t hk => (he _ (by have := (List.getElem?_eq_some_iff.mp hk).1; omega)).trans (h k t hk)
theorem st19.one {r : Nat → Int32} {z : Nat} {t : Int32} (h : r z = t) : st19 r z [t] := fun k t' hk => by
  match k, hk with
  | 0, hk => cases hk; exact h
def CO (c : Nat → Int32) (n : Nat) (J : xJ) (D k : Nat) : Prop := ∀ (I : xI) (p z : Nat), TpC c n I p z → z ≤ p → Spec D (1000000, 0, 0) M_X10_isOperand [.ref 17, .int (nI (6 - k))] xG1 I J (cR I J c z (opd c k p))
def CX (c : Nat → Int32) (n : Nat) (J : xJ) (D k d : Nat) : Prop := ∀ (I : xI) (p z : Nat), TpC c n I p z → z ≤ p → Spec D (1000000, 0, 0) M_X10_isExpression [.ref 17, .int (nI (5 - d)), .int (nI (6 - k))] xG1 I J (cR I J c z (levN c (opd c k) d p))
section
variable {J : xJ} {c : Nat → Int32} {n : Nat}
/-- stuck at a digit: no sign of a level there -/
theorem c_exit' {I0 I : xI} {z q z' L : Nat} {o : Int32} {a3 : Option Value} (hL : L ≤ 4) (hI : xFr [17, 19] I0 I) (h2 : I 17 2 = I0 17 2) (hT : TpC c n I q z') (hz : z' ≤ 121) (hd : dg (c q)) {D : Nat} (hD : 1 ≤ D) : WP D (1000000, 0, 0) none M_X10_isExpression (cR I0 J c z (false, q, [])) 24 [some (.ref 17), some (.int (nI L)), some (.int o), a3] [] xG1 I J := by
  obtain ⟨t1, t2, t3, t4, t5, t6, t7⟩ := id hT
  have hq : q < n := byT_lt t3 (fun w => by rw [w] at hd; exact absurd hd.1 (by decide))
  have n48 : ¬ lvI (c q) = nI L := fun w => by
    rw [lvI_dg hd] at w
    have : 0 ≤ nI L := nI_pos' (by omega)
    rw [← w] at this
    exact absurd this (by decide)
  refine iX10_isExpression_24 (iX10_isExpression_25 (iX10_isExpression_28 (iX10_isExpression_29 ?_)))
  rw [t5, t1]
  refine iX10_isExpression_32 (fun h32 => absurd h32 (nI_ge hq (by omega))) (fun h32 => ?_)
  refine iX10_isExpression_35 (iX10_isExpression_36 (iX10_isExpression_39 (iX10_isExpression_40 ?_)))
  rw [t5]
  refine iX10_isExpression_43 (vp_in_nI (by omega) (by omega)) ?_
  rw [nI_clamp (by omega), t4 q hq]
  refine iX10_isExpression_44 (s_X10_levelOf _) (hdd := by omega) (iX10_isExpression_47 (iX10_isExpression_48 (fun h48 => ?_) (fun h48 => by first | exact absurd (n48) h48 | exact absurd h48 (n48))))
  refine iX10_isExpression_100 (iX10_isExpression_101 ?_)
  exact ⟨rfl, rfl, hI, h2, t5, Or.inr ⟨rfl, Or.inr ⟨rfl, hd⟩, z', hz, t7⟩⟩
theorem c_loop {k d D : Nat} (hd : d ≤ 4) (hX : CX c n J D k d) {I0 : xI} {z : Nat} : ∀ (f p : Nat) (ts : List Int32) (I : xI) (a3 : Option Value), n < p + f → xFr [17, 19] I0 I → I 17 2 = I0 17 2 → TpC c n I p (z + ts.length) → z + ts.length ≤ p → st19 (I 19) z ts → (∀ q, q < z → I 19 q = I0 19 q) → WP (D + 1) (1000000, 0, 0) none M_X10_isExpression (cR I0 J c z (pLoop c (4 - d) (levN c (opd c k) d) f p ts)) 24 [some (.ref 17), some (.int (nI (4 - d))), some (.int (nI (6 - k))), a3] [] xG1 I J := by
  intro f
  induction f with
  | zero =>
    intro p ts I a3 hf hI h2 hT hz hs hr
    have := hT.2.2.2.2.2.1
    omega
  | succ f ih =>
    intro p ts I a3 hf hI h2 hT hz hs hr
    obtain ⟨t1, t2, t3, t4, t5, t6, t7⟩ := id hT
    by_cases q : lvI (c p) = nI (4 - d)
    · have hp1 := byT_lt t3 (lvI_ne (by omega) q)
      have ep : nI p + 1 = nI (p + 1) := nI_1 _
      have eL : nI (4 - d) + 1 = nI (5 - d) := by rw [nI_1, show 4 - d + 1 = 5 - d by omega]
      have hTa : TpC c n (xu I 17 3 (nI (p + 1))) (p + 1) (z + ts.length) := hT.fr (xFr.rf.up (by decide)) (xu_col (by decide)) xu_eq (by omega) (by rw [xu_col (by decide)]; exact t7)
      have hIa : xFr [17, 19] I0 (xu I 17 3 (nI (p + 1))) := hI.up (by decide)
      have sp := hX (xu I 17 3 (nI (p + 1))) (p + 1) (z + ts.length) hTa (by omega)
      have g := levN_ok t3 (opd_ok t3 k) d (p + 1) (by omega) _ _ _ (pR_eta _)
      have eP : pLoop c (4 - d) (levN c (opd c k) d) (f + 1) p ts = if (levN c (opd c k) d (p + 1)).1 = true then (if 4 - d = 2 then (true, (levN c (opd c k) d (p + 1)).2.1, ts ++ ((levN c (opd c k) d (p + 1)).2.2 ++ [-(c p)])) else pLoop c (4 - d) (levN c (opd c k) d) f (levN c (opd c k) d (p + 1)).2.1 (ts ++ ((levN c (opd c k) d (p + 1)).2.2 ++ [-(c p)]))) else (false, (levN c (opd c k) d (p + 1)).2.1, []) := by
        simp only [pLoop]
        rw [if_pos q]
      rw [eP]
      generalize levN c (opd c k) d (p + 1) = S at *
      obtain ⟨g1, g2, g3, g4⟩ := g
      -- behind the side
      have after : ∀ (i : xI) (v : Option Value), xFr [17, 19] I0 i → i 17 2 = I0 17 2 → i 17 3 = nI S.2.1 → ((S.1 = true ∧ v = some (.int 1) ∧ i 17 4 = nI (z + ts.length + S.2.2.length) ∧ (∀ (k : Nat) (t : Int32), S.2.2[k]? = some t → i 19 (z + ts.length + k) = t) ∧ ∀ k, k < z + ts.length → i 19 k = xu I 17 3 (nI (p + 1)) 19 k) ∨ (S.1 = false ∧ (v = some (.int 0) ∨ (v = some (.int 1) ∧ dg (c S.2.1))) ∧ ∃ z', z' ≤ 121 ∧ i 17 4 = nI z')) → WP (D + 1) (1000000, 0, 0) none M_X10_isExpression (cR I0 J c z (if S.1 = true then (if 4 - d = 2 then (true, S.2.1, ts ++ (S.2.2 ++ [-(c p)])) else pLoop c (4 - d) (levN c (opd c k) d) f S.2.1 (ts ++ (S.2.2 ++ [-(c p)]))) else (false, S.2.1, []))) 79 [some (.ref 17), some (.int (nI (4 - d))), some (.int (nI (6 - k))), some (.int (c p))] (v.toList ++ []) xG1 i J := by
        intro i v hi hi2 hi3 hv
        have hTi : ∀ z', i 17 4 = nI z' → TpC c n i S.2.1 z' := fun z' h4 => (hT.fr (I := I) (i := i) (p' := S.2.1) (fun a ha => by rw [hi a ha, hI a ha]) (hi2.trans h2.symm) hi3 g2 h4)
        rcases hv with ⟨hS1, rfl, h4, h5, h6⟩ | ⟨hS1, hv, z', hz', h4⟩
        · rw [if_pos hS1]
          have g3 := g3 hS1
          have sB : st19 (xu (xu i 17 4 (nI (z + ts.length + S.2.2.length + 1))) 19 (z + ts.length + S.2.2.length) (-(c p)) 19) z (ts ++ (S.2.2 ++ [-(c p)])) := by
            refine st19.app (hs.fr (fun k hk => ?_)) (st19.app (st19.fr h5 (fun k hk => ?_)) (st19.one xu_eq))
            · rw [xu_col (by omega), xu_row (by decide), h6 k hk, xu_row (by decide)]
            · rw [xu_col (by omega), xu_row (by decide)]
          have hrB : ∀ q, q < z → xu (xu i 17 4 (nI (z + ts.length + S.2.2.length + 1))) 19 (z + ts.length + S.2.2.length) (-(c p)) 19 q = I0 19 q := fun q hq => by
            rw [xu_col (by omega), xu_row (by decide), h6 q (by omega), xu_row (by decide)]
            exact hr q hq
          have lB : z + (ts ++ (S.2.2 ++ [-(c p)])).length = z + ts.length + S.2.2.length + 1 := by
            simp only [List.length_append, List.length_cons, List.length_nil]
            omega
          have hTB : TpC c n (xu (xu i 17 4 (nI (z + ts.length + S.2.2.length + 1))) 19 (z + ts.length + S.2.2.length) (-(c p))) S.2.1 (z + (ts ++ (S.2.2 ++ [-(c p)])).length) := by
            rw [lB]
            exact (hTi _ h4).fr ((xFr.rf.up (by decide)).up (by decide)) (by rw [xu_row (by decide), xu_col (by decide)]) (by rw [xu_row (by decide), xu_col (by decide)]; exact hi3) g2 (by rw [xu_row (by decide), xu_eq])
          by_cases q2 : 4 - d = 2
          · rw [if_pos q2]
            refine iX10_isExpression_79 (fun h79 => ?_) (fun h79 => by first | exact absurd ((by decide : ¬ (1 : Int32) = 0)) h79 | exact absurd h79 ((by decide : ¬ (1 : Int32) = 0)))
            refine iX10_isExpression_84 (iX10_isExpression_85 (iX10_isExpression_86 (iX10_isExpression_87 (s_X10_emit (J := J) (by omega) h4 _) (hdd := by omega) (iX10_isExpression_90 (iX10_isExpression_91 ?_)))))
            rw [q2]
            refine iX10_isExpression_92 (fun h92 => absurd h92 ((fun w => w rfl))) (fun h92 => ?_)
            refine iX10_isExpression_95 (iX10_isExpression_96 ?_)
            exact ⟨rfl, rfl, (hi.up (by decide)).up (by decide), hTB.1.trans (t1.symm.trans h2), hTB.2.2.2.2.1, Or.inl ⟨rfl, rfl, hTB.2.2.2.2.2.2, sB, hrB⟩⟩
          · rw [if_neg q2]
            have n92 : ¬ nI (4 - d) = 2 := fun w => q2 ((nI_eq (b := 2) (by omega) (by omega)).mp w)
            refine iX10_isExpression_79 (fun h79 => ?_) (fun h79 => by first | exact absurd ((by decide : ¬ (1 : Int32) = 0)) h79 | exact absurd h79 ((by decide : ¬ (1 : Int32) = 0)))
            refine iX10_isExpression_84 (iX10_isExpression_85 (iX10_isExpression_86 (iX10_isExpression_87 (s_X10_emit (J := J) (by omega) h4 _) (hdd := by omega) (iX10_isExpression_90 (iX10_isExpression_91 (iX10_isExpression_92 (fun h92 => ?_) (fun h92 => by first | exact absurd (n92) h92 | exact absurd h92 (n92))))))))
            refine iX10_isExpression_97 ?_
            exact ih _ _ _ _ (by omega) ((hi.up (by decide)).up (by decide)) (hTB.1.trans (t1.symm.trans h2)) hTB (by rw [lB]; omega) sB hrB
        · rw [if_neg (by rw [hS1]; decide)]
          rcases hv with rfl | ⟨rfl, hdd⟩
          · refine iX10_isExpression_79 (fun h79 => absurd h79 ((fun w => w rfl))) (fun h79 => ?_)
            refine iX10_isExpression_82 (iX10_isExpression_83 ?_)
            exact ⟨rfl, rfl, hi, hi2, hi3, Or.inr ⟨rfl, Or.inl rfl, z', hz', h4⟩⟩
          · by_cases q2 : 4 - d = 2
            · refine iX10_isExpression_79 (fun h79 => ?_) (fun h79 => by first | exact absurd ((by decide : ¬ (1 : Int32) = 0)) h79 | exact absurd h79 ((by decide : ¬ (1 : Int32) = 0)))
              refine iX10_isExpression_84 (iX10_isExpression_85 (iX10_isExpression_86 (jX10_isExpression_87 (s_X10_emit_any (J := J) hz' h4 _) (hdd := by omega) (fun r87 g87 I87 J87 hq => ?_))))
              obtain ⟨rfl, rfl, rfl, e1, e2, e3, z2, e4, e5⟩ := hq
              refine iX10_isExpression_90 (iX10_isExpression_91 ?_)
              rw [q2]
              refine iX10_isExpression_92 (fun h92 => absurd h92 ((fun w => w rfl))) (fun h92 => ?_)
              refine iX10_isExpression_95 (iX10_isExpression_96 ?_)
              exact ⟨rfl, rfl, hi.tr e1, e2.trans hi2, e3.trans hi3, Or.inr ⟨rfl, Or.inr ⟨rfl, hdd⟩, z2, e4, e5⟩⟩
            · have n92 : ¬ nI (4 - d) = 2 := fun w => q2 ((nI_eq (b := 2) (by omega) (by omega)).mp w)
              refine iX10_isExpression_79 (fun h79 => ?_) (fun h79 => by first | exact absurd ((by decide : ¬ (1 : Int32) = 0)) h79 | exact absurd h79 ((by decide : ¬ (1 : Int32) = 0)))
              refine iX10_isExpression_84 (iX10_isExpression_85 (iX10_isExpression_86 (jX10_isExpression_87 (s_X10_emit_any (J := J) hz' h4 _) (hdd := by omega) (fun r87 g87 I87 J87 hq => ?_))))
              obtain ⟨rfl, rfl, rfl, e1, e2, e3, z2, e4, e5⟩ := hq
              refine iX10_isExpression_90 (iX10_isExpression_91 (iX10_isExpression_92 (fun h92 => ?_) (fun h92 => by first | exact absurd (n92) h92 | exact absurd h92 (n92))))
              refine iX10_isExpression_97 ?_
              exact c_exit' (by omega) (hi.tr e1) (e2.trans hi2) ((hTi z' h4).fr e1 e2 (e3.trans hi3) g2 e5) e4 hdd (by omega)
      refine iX10_isExpression_24 (iX10_isExpression_25 (iX10_isExpression_28 (iX10_isExpression_29 ?_)))
      rw [t5, t1]
      refine iX10_isExpression_32 (fun h32 => absurd h32 (nI_ge hp1 (by omega))) (fun h32 => ?_)
      refine iX10_isExpression_35 (iX10_isExpression_36 (iX10_isExpression_39 (iX10_isExpression_40 ?_)))
      rw [t5]
      refine iX10_isExpression_43 (vp_in_nI (by omega) (by omega)) ?_
      rw [nI_clamp (by omega), t4 p hp1]
      refine iX10_isExpression_44 (s_X10_levelOf _) (hdd := by omega) (iX10_isExpression_47 (iX10_isExpression_48 (fun h48 => absurd h48 (fun w => w q)) (fun h48 => ?_)))
      refine iX10_isExpression_51 (iX10_isExpression_52 (iX10_isExpression_55 (iX10_isExpression_56 ?_)))
      rw [t5]
      refine iX10_isExpression_59 (vp_in_nI (by omega) (by omega)) ?_
      rw [nI_clamp (by omega), t4 p hp1]
      refine iX10_isExpression_60 (iX10_isExpression_61 (iX10_isExpression_62 (iX10_isExpression_63 ?_)))
      rw [t5]
      refine iX10_isExpression_66 (iX10_isExpression_67 ?_)
      rw [ep]
      refine iX10_isExpression_68 (iX10_isExpression_71 (iX10_isExpression_72 (iX10_isExpression_73 (iX10_isExpression_74 ?_))))
      rw [eL]
      refine iX10_isExpression_75 (jX10_isExpression_76 sp (hdd := by omega) (fun r76 g76 I76 J76 hq => ?_))
      obtain ⟨rfl, rfl, e1, e2, e3, e4⟩ := hq
      exact after _ _ (hIa.tr e1) (e2.trans (by rw [xu_col (by decide)]; exact h2)) e3 e4
    · have eP : pLoop c (4 - d) (levN c (opd c k) d) (f + 1) p ts = (true, p, ts) := by
        simp only [pLoop]
        rw [if_neg q]
      rw [eP]
      by_cases hp1 : p < n
      · refine iX10_isExpression_24 (iX10_isExpression_25 (iX10_isExpression_28 (iX10_isExpression_29 ?_)))
        rw [t5, t1]
        refine iX10_isExpression_32 (fun h32 => absurd h32 (nI_ge hp1 (by omega))) (fun h32 => ?_)
        refine iX10_isExpression_35 (iX10_isExpression_36 (iX10_isExpression_39 (iX10_isExpression_40 ?_)))
        rw [t5]
        refine iX10_isExpression_43 (vp_in_nI (by omega) (by omega)) ?_
        rw [nI_clamp (by omega), t4 p hp1]
        refine iX10_isExpression_44 (s_X10_levelOf _) (hdd := by omega) (iX10_isExpression_47 (iX10_isExpression_48 (fun h48 => ?_) (fun h48 => by first | exact absurd (q) h48 | exact absurd h48 (q))))
        refine iX10_isExpression_100 (iX10_isExpression_101 ?_)
        exact ⟨rfl, rfl, hI, h2, t5, Or.inl ⟨rfl, rfl, t7, hs, hr⟩⟩
      · refine iX10_isExpression_24 (iX10_isExpression_25 (iX10_isExpression_28 (iX10_isExpression_29 ?_)))
        rw [t5, t1]
        refine iX10_isExpression_32 (fun h32 => ?_) (fun h32 => by first | exact absurd (nI_le (a := n) (b := p) (by omega) (by omega)) h32 | exact absurd h32 (nI_le (a := n) (b := p) (by omega) (by omega)))
        refine iX10_isExpression_100 (iX10_isExpression_101 ?_)
        exact ⟨rfl, rfl, hI, h2, t5, Or.inl ⟨rfl, rfl, t7, hs, hr⟩⟩
theorem c_lev {k d D : Nat} (hd : d ≤ 4) (hX : CX c n J D k d) : CX c n J (D + 1) k (d + 1) := by
  intro I p z hT hz
  obtain ⟨t1, t2, t3, t4, t5, t6, t7⟩ := id hT
  have g := levN_ok t3 (opd_ok t3 k) d p t6 _ _ _ (pR_eta _)
  have sp := hX I p z hT hz
  have eP : levN c (opd c k) (d + 1) p = if (levN c (opd c k) d p).1 = true then pLoop c (4 - d) (levN c (opd c k) d) 121 (levN c (opd c k) d p).2.1 (levN c (opd c k) d p).2.2 else (false, (levN c (opd c k) d p).2.1, []) := rfl
  rw [eP]
  have eL : nI (4 - d) + 1 = nI (5 - d) := by rw [nI_1, show 4 - d + 1 = 5 - d by omega]
  rw [show 5 - (d + 1) = 4 - d by omega]
  refine spec_of (L := [some (.ref 17), some (.int (nI (4 - d))), some (.int (nI (6 - k))), none]) (by decide) (Nat.le_of_ble_eq_true rfl) rfl ?_
  generalize hSe : levN c (opd c k) d p = S at *
  obtain ⟨g1, g2, g3, g4⟩ := g
  have after : ∀ (i : xI) (v : Option Value), xFr [17, 19] I i → i 17 2 = I 17 2 → i 17 3 = nI S.2.1 → ((S.1 = true ∧ v = some (.int 1) ∧ i 17 4 = nI (z + S.2.2.length) ∧ (∀ (k : Nat) (t : Int32), S.2.2[k]? = some t → i 19 (z + k) = t) ∧ ∀ k, k < z → i 19 k = I 19 k) ∨ (S.1 = false ∧ (v = some (.int 0) ∨ (v = some (.int 1) ∧ dg (c S.2.1))) ∧ ∃ z', z' ≤ 121 ∧ i 17 4 = nI z')) → WP (D + 1) (1000000, 0, 0) none M_X10_isExpression (cR I J c z (if S.1 = true then pLoop c (4 - d) (levN c (opd c k) d) 121 S.2.1 S.2.2 else (false, S.2.1, []))) 19 [some (.ref 17), some (.int (nI (4 - d))), some (.int (nI (6 - k))), none] (v.toList ++ []) xG1 i J := by
    intro i v hi hi2 hi3 hv
    rcases hv with ⟨hS1, rfl, h4, h5, h6⟩ | ⟨hS1, hv, z', hz', h4⟩
    · rw [if_pos hS1]
      have g3 := g3 hS1
      refine iX10_isExpression_19 (fun h19 => ?_) (fun h19 => by first | exact absurd ((by decide : ¬ (1 : Int32) = 0)) h19 | exact absurd h19 ((by decide : ¬ (1 : Int32) = 0)))
      exact c_loop hd hX 121 _ _ i _ (by omega) hi hi2 (hT.fr hi hi2 hi3 g2 h4) (by omega) h5 h6
    · rw [if_neg (by rw [hS1]; decide)]
      rcases hv with rfl | ⟨rfl, hdd⟩
      · refine iX10_isExpression_19 (fun h19 => absurd h19 ((fun w => w rfl))) (fun h19 => ?_)
        refine iX10_isExpression_22 (iX10_isExpression_23 ?_)
        exact ⟨rfl, rfl, hi, hi2, hi3, Or.inr ⟨rfl, Or.inl rfl, z', hz', h4⟩⟩
      · refine iX10_isExpression_19 (fun h19 => ?_) (fun h19 => by first | exact absurd ((by decide : ¬ (1 : Int32) = 0)) h19 | exact absurd h19 ((by decide : ¬ (1 : Int32) = 0)))
        exact c_exit' (by omega) hi hi2 (hT.fr hi hi2 hi3 g2 h4) hz' hdd (by omega)
  refine iX10_isExpression_0 (iX10_isExpression_1 (iX10_isExpression_2 (fun h2 => ?_) (fun h2 => by first | exact absurd (nI_le (a := 4 - d) (b := 4) (by omega) (by omega)) h2 | exact absurd h2 (nI_le (a := 4 - d) (b := 4) (by omega) (by omega)))))
  refine iX10_isExpression_11 (iX10_isExpression_12 (iX10_isExpression_13 (iX10_isExpression_14 ?_)))
  rw [eL]
  refine iX10_isExpression_15 (jX10_isExpression_16 sp (hdd := by omega) (fun r16 g16 I16 J16 hq => ?_))
  obtain ⟨rfl, rfl, e1, e2, e3, e4⟩ := hq
  exact after _ _ e1 e2 e3 e4
theorem c_lev0 {k D : Nat} (hO : CO c n J D k) : CX c n J (D + 1) k 0 := by
  intro I p z hT hz
  have sp := hO I p z hT hz
  refine spec_of (L := [some (.ref 17), some (.int (nI (5 - 0))), some (.int (nI (6 - k))), none]) (by decide) (Nat.le_of_ble_eq_true rfl) rfl ?_
  have fin : ∀ (i : xI) (v : Option Value), cR I J c z (opd c k p) v xG1 i J → WP (D + 1) (1000000, 0, 0) none M_X10_isExpression (cR I J c z (levN c (opd c k) 0 p)) 10 [some (.ref 17), some (.int (nI (5 - 0))), some (.int (nI (6 - k))), none] (v.toList ++ []) xG1 i J := by
    intro i v hv
    obtain ⟨-, -, e1, e2, e3, e4⟩ := id hv
    rcases e4 with ⟨-, rfl, -⟩ | ⟨-, rfl | ⟨rfl, -⟩, -⟩
    · exact iX10_isExpression_10 hv
    · exact iX10_isExpression_10 hv
    · exact iX10_isExpression_10 hv
  refine iX10_isExpression_0 (iX10_isExpression_1 (iX10_isExpression_2 (fun h2 => absurd h2 ((by decide : ¬ nI (5 - 0) ≤ 4))) (fun h2 => ?_)))
  refine iX10_isExpression_5 (iX10_isExpression_6 (jX10_isExpression_7 sp (hdd := by omega) (fun r7 g7 I7 J7 hq => ?_)))
  have hq2 := hq
  obtain ⟨rfl, rfl, -⟩ := hq
  exact fin _ _ hq2
end
