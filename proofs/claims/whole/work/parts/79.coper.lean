/-! ===== the class's operands; a line; a text ===== -/
section
variable {J : xJ} {c : Nat → Int32} {n : Nat}
theorem cR_up {I Ia i : xI} {z : Nat} {r : pR} {v : Option Value} {g : xG} {j : xJ} (h : cR Ia J c z r v g i j) (hf : xFr [17, 19] I Ia) (h2 : Ia 17 2 = I 17 2) (h19 : ∀ k, k < z → Ia 19 k = I 19 k) : cR I J c z r v g i j := by
  obtain ⟨e0, e1, e2, e3, e4, e5⟩ := h
  refine ⟨e0, e1, hf.tr e2, e3.trans h2, e4, ?_⟩
  rcases e5 with ⟨a1, a2, a3, a4, a5⟩ | e5
  · exact Or.inl ⟨a1, a2, a3, a4, fun k hk => (a5 k hk).trans (h19 k hk)⟩
  · exact Or.inr e5
/-- its answers, one by one -/
theorem cR_v {I i : xI} {z : Nat} {r : pR} {v : Option Value} {g : xG} {j : xJ} (h : cR I J c z r v g i j) : g = xG1 ∧ j = J ∧ (v = some (.int 0) ∨ v = some (.int 1)) := by
  obtain ⟨e0, e1, -, -, -, e5⟩ := h
  refine ⟨e0, e1, ?_⟩
  rcases e5 with ⟨-, a, -⟩ | ⟨-, a | ⟨a, -⟩, -⟩
  · exact Or.inr a
  · exact Or.inl a
  · exact Or.inr a
def pEnc (c : Nat → Int32) (S : pR) : pR := if S.1 = true then (if c S.2.1 = 41 then (true, S.2.1 + 1, S.2.2) else (false, S.2.1, [])) else (false, S.2.1, [])
def pSig (u : Int32) (S : pR) : pR := if S.1 = true then (true, S.2.1, S.2.2 ++ [u]) else (false, S.2.1, [])
theorem s_isEnclosed {k D : Nat} (hX : CX c n J D k 5) {I : xI} {p z : Nat} (hT : TpC c n I p z) (hz : z ≤ p) : Spec (D + 1) (1000000, 0, 0) M_X10_isEnclosed [.ref 17, .int (nI (6 - k))] xG1 I J (cR I J c z (pEnc c (levN c (opd c k) 5 p))) := by
  obtain ⟨t1, t2, t3, t4, t5, t6, t7⟩ := id hT
  have g := levN_ok t3 (opd_ok t3 k) 5 p t6 _ _ _ (pR_eta _)
  have sp : Spec D (1000000, 0, 0) M_X10_isExpression [.ref 17, .int 0, .int (nI (6 - k))] xG1 I J (cR I J c z (levN c (opd c k) 5 p)) := hX I p z hT hz
  generalize levN c (opd c k) 5 p = S at *
  obtain ⟨g1, g2, g3, g4⟩ := g
  refine spec_of (L := [some (.ref 17), some (.int (nI (6 - k)))]) (by decide) (Nat.le_of_ble_eq_true rfl) rfl ?_
  have after : ∀ (i : xI) (v : Option Value), cR I J c z S v xG1 i J → WP (D + 1) (1000000, 0, 0) none M_X10_isEnclosed (cR I J c z (pEnc c S)) 6 [some (.ref 17), some (.int (nI (6 - k)))] (v.toList ++ []) xG1 i J := by
    intro i v hv
    obtain ⟨-, -, e2, e3, e4, e5⟩ := hv
    unfold pEnc
    rcases e5 with ⟨hS1, rfl, a3, a4, a5⟩ | ⟨hS1, hv, z', hz', h4⟩
    · rw [if_pos hS1]
      have hTi := hT.fr e2 e3 e4 g2 a3
      by_cases q : c S.2.1 = 41
      · rw [if_pos q]
        have ep : nI S.2.1 + 1 = nI (S.2.1 + 1) := nI_1 _
        refine iX10_isEnclosed_6 (fun h6 => absurd h6 ((by decide : ¬ (1 : Int32) = 0))) (fun h6 => ?_)
        refine iX10_isEnclosed_9 (iX10_isEnclosed_10 (s_X10_next hTi) (hdd := by omega) (iX10_isEnclosed_13 (iX10_isEnclosed_15 (fun h15 => ?_) (fun h15 => by first | exact absurd (q) h15 | exact absurd h15 (q)))))
        refine iX10_isEnclosed_20 (iX10_isEnclosed_21 (iX10_isEnclosed_22 ?_))
        rw [e4]
        refine iX10_isEnclosed_25 (iX10_isEnclosed_26 ?_)
        rw [ep]
        refine iX10_isEnclosed_27 (iX10_isEnclosed_30 (iX10_isEnclosed_31 ?_))
        exact ⟨rfl, rfl, e2.up (by decide), by rw [xu_col (by decide)]; exact e3, xu_eq, Or.inl ⟨rfl, rfl, by rw [xu_col (by decide)]; exact a3, fun k t hk => by rw [xu_row (by decide)]; exact a4 k t hk, fun k hk => by rw [xu_row (by decide)]; exact a5 k hk⟩⟩
      · rw [if_neg q]
        refine iX10_isEnclosed_6 (fun h6 => absurd h6 ((by decide : ¬ (1 : Int32) = 0))) (fun h6 => ?_)
        refine iX10_isEnclosed_9 (iX10_isEnclosed_10 (s_X10_next hTi) (hdd := by omega) (iX10_isEnclosed_13 (iX10_isEnclosed_15 (fun h15 => absurd h15 (q)) (fun h15 => ?_))))
        refine iX10_isEnclosed_18 (iX10_isEnclosed_19 ?_)
        exact ⟨rfl, rfl, e2, e3, e4, Or.inr ⟨rfl, Or.inl rfl, z + S.2.2.length, by have := g3 hS1; omega, a3⟩⟩
    · rw [if_neg (by rw [hS1]; decide)]
      rcases hv with rfl | ⟨rfl, hdd⟩
      · refine iX10_isEnclosed_6 (fun h6 => ?_) (fun h6 => by first | exact absurd (rfl) h6 | exact absurd h6 (rfl))
        refine iX10_isEnclosed_18 (iX10_isEnclosed_19 ?_)
        exact ⟨rfl, rfl, e2, e3, e4, Or.inr ⟨rfl, Or.inl rfl, z', hz', h4⟩⟩
      · have n15 : ¬ c S.2.1 = 41 := fun w => by rw [w] at hdd; exact absurd hdd.1 (by decide)
        refine iX10_isEnclosed_6 (fun h6 => absurd h6 ((by decide : ¬ (1 : Int32) = 0))) (fun h6 => ?_)
        refine iX10_isEnclosed_9 (iX10_isEnclosed_10 (s_X10_next (hT.fr e2 e3 e4 g2 h4)) (hdd := by omega) (iX10_isEnclosed_13 (iX10_isEnclosed_15 (fun h15 => absurd h15 (n15)) (fun h15 => ?_))))
        refine iX10_isEnclosed_18 (iX10_isEnclosed_19 ?_)
        exact ⟨rfl, rfl, e2, e3, e4, Or.inr ⟨rfl, Or.inl rfl, z', hz', h4⟩⟩
  refine iX10_isEnclosed_0 (iX10_isEnclosed_1 (iX10_isEnclosed_2 (jX10_isEnclosed_3 sp (hdd := by omega) (fun r3 g3 I3 J3 hq => ?_))))
  have hq2 := hq
  obtain ⟨rfl, rfl, -⟩ := hq
  exact after _ _ hq2
theorem s_isSigned {k D : Nat} (hO : CO c n J D k) {I : xI} {p z : Nat} (hT : TpC c n I p z) (hz : z + 1 ≤ p) (x : Int32) : Spec (D + 1) (1000000, 0, 0) M_X10_isSigned [.ref 17, .int x, .int (nI (6 - k))] xG1 I J (cR I J c z (pSig (if x = 33 then -33 else -126) (opd c k p))) := by
  obtain ⟨t1, t2, t3, t4, t5, t6, t7⟩ := id hT
  have g := opd_ok t3 k p t6 _ _ _ (pR_eta _)
  have sp := hO I p z hT (by omega)
  generalize opd c k p = S at *
  obtain ⟨g1, g2, g3, g4⟩ := g
  refine spec_of (L := [some (.ref 17), some (.int x), some (.int (nI (6 - k)))]) (by decide) (Nat.le_of_ble_eq_true rfl) rfl ?_
  have after : ∀ (i : xI) (v : Option Value), cR I J c z S v xG1 i J → WP (D + 1) (1000000, 0, 0) none M_X10_isSigned (cR I J c z (pSig (if x = 33 then -33 else -126) S)) 5 [some (.ref 17), some (.int x), some (.int (nI (6 - k)))] (v.toList ++ []) xG1 i J := by
    intro i v hv
    obtain ⟨-, -, e2, e3, e4, e5⟩ := hv
    unfold pSig
    rcases e5 with ⟨hS1, rfl, a3, a4, a5⟩ | ⟨hS1, hv, z', hz', h4⟩
    · rw [if_pos hS1]
      have g3 := g3 hS1
      have fin : ∀ u : Int32, WP (D + 1) (1000000, 0, 0) none M_X10_isSigned (cR I J c z (true, S.2.1, S.2.2 ++ [u])) 24 [some (.ref 17), some (.int x), some (.int (nI (6 - k)))] [.int u, .ref 17] xG1 i J := by
        intro u
        refine iX10_isSigned_24 (s_X10_emit (J := J) (z := z + S.2.2.length) (by omega) a3 u) (hdd := by omega) (iX10_isSigned_27 (iX10_isSigned_28 ?_))
        refine ⟨rfl, rfl, (e2.up (by decide)).up (by decide), by rw [xu_row (by decide), xu_col (by decide)]; exact e3, by rw [xu_row (by decide), xu_col (by decide)]; exact e4, Or.inl ⟨rfl, rfl, by rw [xu_row (by decide), xu_eq]; simp [Nat.add_assoc], ?_, fun k hk => ?_⟩⟩
        · exact st19.app (A := S.2.2) (B := [u]) (st19.fr a4 (fun k hk => by rw [xu_col (by omega), xu_row (by decide)])) (st19.one xu_eq)
        · rw [xu_col (by omega), xu_row (by decide)]
          exact a5 k hk
      by_cases q : x = 33
      · rw [if_pos q]
        refine iX10_isSigned_5 (fun h5 => ?_) (fun h5 => by first | exact absurd ((by decide : ¬ (1 : Int32) = 0)) h5 | exact absurd h5 ((by decide : ¬ (1 : Int32) = 0)))
        refine iX10_isSigned_10 (iX10_isSigned_11 (iX10_isSigned_12 (iX10_isSigned_14 (fun h14 => absurd h14 (fun w => w q)) (fun h14 => ?_))))
        refine iX10_isSigned_17 (iX10_isSigned_19 ?_)
        exact fin _
      · rw [if_neg q]
        refine iX10_isSigned_5 (fun h5 => ?_) (fun h5 => by first | exact absurd ((by decide : ¬ (1 : Int32) = 0)) h5 | exact absurd h5 ((by decide : ¬ (1 : Int32) = 0)))
        refine iX10_isSigned_10 (iX10_isSigned_11 (iX10_isSigned_12 (iX10_isSigned_14 (fun h14 => ?_) (fun h14 => by first | exact absurd (q) h14 | exact absurd h14 (q)))))
        refine iX10_isSigned_22 ?_
        exact fin _
    · rw [if_neg (by rw [hS1]; decide)]
      rcases hv with rfl | ⟨rfl, hdd⟩
      · refine iX10_isSigned_5 (fun h5 => absurd h5 ((fun w => w rfl))) (fun h5 => ?_)
        refine iX10_isSigned_8 (iX10_isSigned_9 ?_)
        exact ⟨rfl, rfl, e2, e3, e4, Or.inr ⟨rfl, Or.inl rfl, z', hz', h4⟩⟩
      · have fin : ∀ u : Int32, WP (D + 1) (1000000, 0, 0) none M_X10_isSigned (cR I J c z (false, S.2.1, [])) 24 [some (.ref 17), some (.int x), some (.int (nI (6 - k)))] [.int u, .ref 17] xG1 i J := by
          intro u
          refine jX10_isSigned_24 (s_X10_emit_any (J := J) hz' h4 u) (hdd := by omega) (fun r24 g24 I24 J24 hq => ?_)
          obtain ⟨rfl, rfl, rfl, f1, f2, f3, z2, f4, f5⟩ := hq
          refine iX10_isSigned_27 (iX10_isSigned_28 ?_)
          exact ⟨rfl, rfl, e2.tr f1, f2.trans e3, f3.trans e4, Or.inr ⟨rfl, Or.inr ⟨rfl, hdd⟩, z2, f4, f5⟩⟩
        refine iX10_isSigned_5 (fun h5 => ?_) (fun h5 => by first | exact absurd ((by decide : ¬ (1 : Int32) = 0)) h5 | exact absurd h5 ((by decide : ¬ (1 : Int32) = 0)))
        refine iX10_isSigned_10 (iX10_isSigned_11 (iX10_isSigned_12 (iX10_isSigned_14 (fun h14 => ?_) (fun h14 => ?_))))
        · refine iX10_isSigned_22 ?_
          exact fin _
        · refine iX10_isSigned_17 (iX10_isSigned_19 ?_)
          exact fin _
  refine iX10_isSigned_0 (iX10_isSigned_1 (jX10_isSigned_2 sp (hdd := by omega) (fun r2 g2 I2 J2 hq => ?_)))
  have hq2 := hq
  obtain ⟨rfl, rfl, -⟩ := hq
  exact after _ _ hq2
theorem pNum_no {p : Nat} (h : ¬ dg (c p)) : pNum c p = (false, p, []) := by
  have e : nmG c 4 p 0 = (p, 0) := by
    show @ite _ (dg (c p)) (Classical.propDecidable _) _ _ = _
    rw [if_neg h]
  unfold pNum
  rw [e, if_pos (Or.inl rfl)]
theorem dg_not {x : Int32} (h : dg x) : ¬ 0 ≤ nameI x ∧ ¬ (x = 33 ∨ x = 45 ∨ x = 40) := by
  unfold nameI
  unfold dg at h
  grind
/-- an operand, but for what it encloses -/
theorem c_opd {o : Option ((Nat → pR) × (Nat → pR))} {om : Int32} {D : Nat} (hD : 4 ≤ D) {I : xI} {p z : Nat} (hT : TpC c n I p z) (hz : z ≤ p) (hin : ¬ 0 ≤ nameI (c p) → (c p = 33 ∨ c p = 45 ∨ c p = 40) → WP D (1000000, 0, 0) none M_X10_isOperand (cR I J c z (pOpd c o p)) 46 [some (.ref 17), some (.int om), some (.int (c p))] [] xG1 I J) : Spec D (1000000, 0, 0) M_X10_isOperand [.ref 17, .int om] xG1 I J (cR I J c z (pOpd c o p)) := by
  obtain ⟨t1, t2, t3, t4, t5, t6, t7⟩ := id hT
  refine spec_of (L := [some (.ref 17), some (.int om), none]) (by decide) (Nat.le_of_ble_eq_true rfl) rfl ?_
  by_cases q : dg (c p)
  · obtain ⟨d1, d2⟩ := dg_not q
    have e : pOpd c o p = pNum c p := by unfold pOpd; rw [if_neg d1, if_neg d2]
    rw [e]
    have sp := s_X10_isNumber (J := J) hT hz q
    have fin : ∀ (i : xI) (v : Option Value), cR I J c z (pNum c p) v xG1 i J → WP D (1000000, 0, 0) none M_X10_isOperand (cR I J c z (pNum c p)) 16 [some (.ref 17), some (.int om), some (.int (c p))] (v.toList ++ []) xG1 i J := by
      intro i v hv
      obtain ⟨-, -, rfl | rfl⟩ := cR_v hv
      · exact iX10_isOperand_16 hv
      · exact iX10_isOperand_16 hv
    refine iX10_isOperand_0 (iX10_isOperand_1 (s_X10_next hT) (hdd := by omega) (iX10_isOperand_4 (iX10_isOperand_5 (iX10_isOperand_6 (s_X10_isDigit _) (hdd := by omega) (iX10_isOperand_9 (fun h9 => absurd h9 (dg_in.mp q)) (fun h9 => ?_))))))
    refine iX10_isOperand_12 (jX10_isOperand_13 sp (hdd := by omega) (fun r13 g13 I13 J13 hq => ?_))
    have hq2 := hq
    obtain ⟨rfl, rfl, -⟩ := hq
    exact fin _ _ hq2
  · have q9 : f_in (c p) 48 57 = 0 := Decidable.byContradiction fun w => q (dg_in.mpr w)
    by_cases q1 : 0 ≤ nameI (c p)
    · have e : pOpd c o p = (true, p + 1, [-1 - nameI (c p)]) := by unfold pOpd; rw [if_pos q1]
      rw [e]
      have hp1 := byT_lt t3 (nameI_ne q1)
      have ep : nI p + 1 = nI (p + 1) := nI_1 _
      refine iX10_isOperand_0 (iX10_isOperand_1 (s_X10_next hT) (hdd := by omega) (iX10_isOperand_4 (iX10_isOperand_5 (iX10_isOperand_6 (s_X10_isDigit _) (hdd := by omega) (iX10_isOperand_9 (fun h9 => ?_) (fun h9 => by first | exact absurd (q9) h9 | exact absurd h9 (q9)))))))
      refine iX10_isOperand_17 (iX10_isOperand_18 (s_X6_nameOf _) (hdd := by omega) (iX10_isOperand_21 (fun h21 => absurd h21 (Int32.not_lt.mpr q1)) (fun h21 => ?_)))
      refine iX10_isOperand_24 (iX10_isOperand_25 (iX10_isOperand_26 (iX10_isOperand_27 (s_X6_nameOf _) (hdd := by omega) (iX10_isOperand_30 (iX10_isOperand_31 (s_X10_emit (J := J) (z := z) (by omega) t7 _) (hdd := by omega) (iX10_isOperand_34 (iX10_isOperand_35 (iX10_isOperand_36 ?_))))))))
      rw [xu_row (by decide), xu_col (by decide), t5]
      refine iX10_isOperand_39 (iX10_isOperand_40 ?_)
      rw [ep]
      refine iX10_isOperand_41 (iX10_isOperand_44 (iX10_isOperand_45 ?_))
      refine ⟨rfl, rfl, ((xFr.rf.up (by decide)).up (by decide)).up (by decide), by rw [xu_col (by decide), xu_row (by decide), xu_col (by decide)], xu_eq, Or.inl ⟨rfl, rfl, by rw [xu_col (by decide), xu_row (by decide), xu_eq]; rfl, ?_, fun k hk => ?_⟩⟩
      · exact st19.one (by rw [xu_row (by decide), xu_eq])
      · rw [xu_row (by decide), xu_col (by omega), xu_row (by decide)]
    · by_cases q2 : c p = 33 ∨ c p = 45 ∨ c p = 40
      · refine iX10_isOperand_0 (iX10_isOperand_1 (s_X10_next hT) (hdd := by omega) (iX10_isOperand_4 (iX10_isOperand_5 (iX10_isOperand_6 (s_X10_isDigit _) (hdd := by omega) (iX10_isOperand_9 (fun h9 => ?_) (fun h9 => by first | exact absurd (q9) h9 | exact absurd h9 (q9)))))))
        refine iX10_isOperand_17 (iX10_isOperand_18 (s_X6_nameOf _) (hdd := by omega) (iX10_isOperand_21 (fun h21 => ?_) (fun h21 => by first | exact absurd (Int32.not_le.mp q1) h21 | exact absurd h21 (Int32.not_le.mp q1))))
        exact hin q1 q2
      · have e : pOpd c o p = (false, p, []) := by unfold pOpd; rw [if_neg q1, if_neg q2, pNum_no q]
        rw [e]
        refine iX10_isOperand_0 (iX10_isOperand_1 (s_X10_next hT) (hdd := by omega) (iX10_isOperand_4 (iX10_isOperand_5 (iX10_isOperand_6 (s_X10_isDigit _) (hdd := by omega) (iX10_isOperand_9 (fun h9 => ?_) (fun h9 => by first | exact absurd (q9) h9 | exact absurd h9 (q9)))))))
        refine iX10_isOperand_17 (iX10_isOperand_18 (s_X6_nameOf _) (hdd := by omega) (iX10_isOperand_21 (fun h21 => ?_) (fun h21 => by first | exact absurd (Int32.not_le.mp q1) h21 | exact absurd h21 (Int32.not_le.mp q1))))
        refine iX10_isOperand_46 (iX10_isOperand_47 (iX10_isOperand_49 (fun h49 => ?_) (fun h49 => ?_)))
        · refine iX10_isOperand_70 (iX10_isOperand_71 ?_)
          exact ⟨rfl, rfl, xFr.rf, rfl, t5, Or.inr ⟨rfl, Or.inl rfl, z, by omega, t7⟩⟩
        · refine iX10_isOperand_52 (iX10_isOperand_53 (iX10_isOperand_55 (fun h55 => absurd h55 (fun w => q2 (Or.inr (Or.inr w)))) (fun h55 => ?_)))
          refine iX10_isOperand_58 (iX10_isOperand_59 (iX10_isOperand_61 (fun h61 => absurd h61 (fun w => q2 (Or.inl w))) (fun h61 => ?_)))
          refine iX10_isOperand_64 (iX10_isOperand_65 (iX10_isOperand_67 (fun h67 => absurd h67 (fun w => q2 (Or.inr (Or.inl w)))) (fun h67 => ?_)))
          refine iX10_isOperand_70 (iX10_isOperand_71 ?_)
          exact ⟨rfl, rfl, xFr.rf, rfl, t5, Or.inr ⟨rfl, Or.inl rfl, z, by omega, t7⟩⟩
theorem c_opd0 : CO c n J 4 0 := by
  intro I p z hT hz
  obtain ⟨t1, t2, t3, t4, t5, t6, t7⟩ := id hT
  refine c_opd (o := none) (om := nI (6 - 0)) (by omega) hT hz (fun q1 q2 => ?_)
  have e : pOpd c none p = (false, p, []) := by unfold pOpd; rw [if_neg q1, if_pos q2]
  rw [e]
  refine iX10_isOperand_46 (iX10_isOperand_47 (iX10_isOperand_49 (fun h49 => ?_) (fun h49 => by first | exact absurd (Int32.le_refl _) h49 | exact absurd h49 (Int32.le_refl _))))
  refine iX10_isOperand_70 (iX10_isOperand_71 ?_)
  exact ⟨rfl, rfl, xFr.rf, rfl, t5, Or.inr ⟨rfl, Or.inl rfl, z, by omega, t7⟩⟩
theorem c_opdS {k D : Nat} (hk : k + 1 ≤ 6) (hO : CO c n J D k) (hX : CX c n J (D + 6) k 5) : CO c n J (D + 8) (k + 1) := by
  intro I p z hT hz
  obtain ⟨t1, t2, t3, t4, t5, t6, t7⟩ := id hT
  refine c_opd (o := some (levN c (opd c k) 5, opd c k)) (om := nI (6 - (k + 1))) (by omega) hT hz (fun q1 q2 => ?_)
  have hp1 : p < n := byT_lt t3 (fun w => by rw [w] at q2; revert q2; decide)
  have ep : nI p + 1 = nI (p + 1) := nI_1 _
  have eo : nI (6 - (k + 1)) + 1 = nI (6 - k) := by rw [nI_1, show 6 - (k + 1) + 1 = 6 - k by omega]
  have n49 : ¬ (6 : Int32) ≤ nI (6 - (k + 1)) := nI_ge (b := 6) (by omega) (by omega)
  have fa : xFr [17, 19] I (xu I 17 3 (nI (p + 1))) := xFr.rf.up (by decide)
  have hTa : TpC c n (xu I 17 3 (nI (p + 1))) (p + 1) z := hT.fr fa (xu_col (by decide)) xu_eq (by omega) (by rw [xu_col (by decide)]; exact t7)
  have up : ∀ {r : pR} {v : Option Value} {i : xI}, cR (xu I 17 3 (nI (p + 1))) J c z r v xG1 i J → cR I J c z r v xG1 i J := fun h => cR_up h fa (xu_col (by decide)) (fun k _ => xu_row (by decide))
  by_cases q3 : c p = 40
  · have e : pOpd c (some (levN c (opd c k) 5, opd c k)) p = pEnc c (levN c (opd c k) 5 (p + 1)) := by unfold pOpd pEnc; rw [if_neg q1, if_pos q2]; simp only; rw [if_pos q3]
    rw [e]
    have sp := s_isEnclosed hX hTa (by omega)
    have fin : ∀ (i : xI) (v : Option Value), cR I J c z (pEnc c (levN c (opd c k) 5 (p + 1))) v xG1 i J → WP (D + 8) (1000000, 0, 0) none M_X10_isOperand (cR I J c z (pEnc c (levN c (opd c k) 5 (p + 1)))) 95 [some (.ref 17), some (.int (nI (6 - (k + 1)))), some (.int (c p))] (v.toList ++ []) xG1 i J := by
      intro i v hv
      obtain ⟨-, -, rfl | rfl⟩ := cR_v hv
      · exact iX10_isOperand_95 (iX10_isOperand_106 hv)
      · exact iX10_isOperand_95 (iX10_isOperand_106 hv)
    refine iX10_isOperand_46 (iX10_isOperand_47 (iX10_isOperand_49 (fun h49 => absurd h49 (n49)) (fun h49 => ?_)))
    refine iX10_isOperand_52 (iX10_isOperand_53 (iX10_isOperand_55 (fun h55 => ?_) (fun h55 => by first | exact absurd (q3) h55 | exact absurd h55 (q3))))
    refine iX10_isOperand_72 (iX10_isOperand_73 (iX10_isOperand_74 ?_))
    rw [t5]
    refine iX10_isOperand_77 (iX10_isOperand_78 ?_)
    rw [ep]
    refine iX10_isOperand_79 (iX10_isOperand_82 (iX10_isOperand_83 (iX10_isOperand_85 (fun h85 => absurd h85 (fun w => w q3)) (fun h85 => ?_))))
    refine iX10_isOperand_88 (iX10_isOperand_89 (iX10_isOperand_90 (iX10_isOperand_91 ?_)))
    rw [eo]
    refine jX10_isOperand_92 sp (hdd := by omega) (fun r92 g92 I92 J92 hq => ?_)
    have hq2 := hq
    obtain ⟨rfl, rfl, -⟩ := hq
    exact fin _ _ (up hq2)
  · have e : pOpd c (some (levN c (opd c k) 5, opd c k)) p = pSig (if c p = 33 then -33 else -126) (opd c k (p + 1)) := by unfold pOpd pSig; rw [if_neg q1, if_pos q2]; simp only; rw [if_neg q3]
    rw [e]
    have sp := s_isSigned hO hTa (by omega) (c p)
    have fin : ∀ (i : xI) (v : Option Value), cR I J c z (pSig (if c p = 33 then -33 else -126) (opd c k (p + 1))) v xG1 i J → WP (D + 8) (1000000, 0, 0) none M_X10_isOperand (cR I J c z (pSig (if c p = 33 then -33 else -126) (opd c k (p + 1)))) 106 [some (.ref 17), some (.int (nI (6 - (k + 1)))), some (.int (c p))] (v.toList ++ []) xG1 i J := by
      intro i v hv
      obtain ⟨-, -, rfl | rfl⟩ := cR_v hv
      · exact iX10_isOperand_106 hv
      · exact iX10_isOperand_106 hv
    have at72 : WP (D + 8) (1000000, 0, 0) none M_X10_isOperand (cR I J c z (pSig (if c p = 33 then -33 else -126) (opd c k (p + 1)))) 72 [some (.ref 17), some (.int (nI (6 - (k + 1)))), some (.int (c p))] [] xG1 I J := by
      refine iX10_isOperand_72 (iX10_isOperand_73 (iX10_isOperand_74 ?_))
      rw [t5]
      refine iX10_isOperand_77 (iX10_isOperand_78 ?_)
      rw [ep]
      refine iX10_isOperand_79 (iX10_isOperand_82 (iX10_isOperand_83 (iX10_isOperand_85 (fun h85 => ?_) (fun h85 => by first | exact absurd (q3) h85 | exact absurd h85 (q3)))))
      refine iX10_isOperand_98 (iX10_isOperand_99 (iX10_isOperand_100 (iX10_isOperand_101 (iX10_isOperand_102 ?_))))
      rw [eo]
      refine jX10_isOperand_103 sp (hdd := by omega) (fun r103 g103 I103 J103 hq => ?_)
      have hq2 := hq
      obtain ⟨rfl, rfl, -⟩ := hq
      exact fin _ _ (up hq2)
    by_cases q4 : c p = 33
    · refine iX10_isOperand_46 (iX10_isOperand_47 (iX10_isOperand_49 (fun h49 => absurd h49 (n49)) (fun h49 => ?_)))
      refine iX10_isOperand_52 (iX10_isOperand_53 (iX10_isOperand_55 (fun h55 => absurd h55 (q3)) (fun h55 => ?_)))
      refine iX10_isOperand_58 (iX10_isOperand_59 (iX10_isOperand_61 (fun h61 => ?_) (fun h61 => by first | exact absurd (q4) h61 | exact absurd h61 (q4))))
      exact at72
    · refine iX10_isOperand_46 (iX10_isOperand_47 (iX10_isOperand_49 (fun h49 => absurd h49 (n49)) (fun h49 => ?_)))
      refine iX10_isOperand_52 (iX10_isOperand_53 (iX10_isOperand_55 (fun h55 => absurd h55 (q3)) (fun h55 => ?_)))
      refine iX10_isOperand_58 (iX10_isOperand_59 (iX10_isOperand_61 (fun h61 => absurd h61 (q4)) (fun h61 => ?_)))
      refine iX10_isOperand_64 (iX10_isOperand_65 (iX10_isOperand_67 (fun h67 => ?_) (fun h67 => by first | exact absurd ((by rcases q2 with w | w | w; exact absurd w q4; exact w; exact absurd w q3)) h67 | exact absurd h67 ((by rcases q2 with w | w | w; exact absurd w q4; exact w; exact absurd w q3)))))
      exact at72
theorem c_lev5 {k D : Nat} (hO : CO c n J D k) : CX c n J (D + 6) k 5 := c_lev (by omega) (c_lev (by omega) (c_lev (by omega) (c_lev (by omega) (c_lev (by omega) (c_lev0 hO)))))
theorem c_opdA : ∀ k : Nat, k ≤ 6 → CO c n J (4 + 8 * k) k
  | 0, _ => c_opd0
  | k + 1, h => by
    have := c_opdA k (by omega)
    exact c_opdS h this (c_lev5 this)
theorem c_ex : CX c n J 58 6 5 := c_lev5 (c_opdA 6 (by omega))
end
