/-! ===== an agenda, as both take it from a row ===== -/
def ok2 (Bf : Nat → Int32) (L nB nS i : Nat) : Prop := 2 * i + 1 < L ∧ ¬ Bf (2 * i) < 0 ∧ bv Bf (2 * i) < nB ∧ ¬ Bf (2 * i + 1) < 0 ∧ bv Bf (2 * i + 1) < nS
noncomputable def agL (Bf : Nat → Int32) (L nB nS : Nat) : Nat → Nat → List (Nat × Nat)
  | 0, _ => []
  | n + 1, i => @ite _ (ok2 Bf L nB nS i) (Classical.propDecidable _) ((bv Bf (2 * i), bv Bf (2 * i + 1)) :: agL Bf L nB nS n (i + 1)) []
theorem agL_len {Bf : Nat → Int32} {L nB nS : Nat} : ∀ n i, (agL Bf L nB nS n i).length ≤ n
  | 0, _ => Nat.le_refl _
  | n + 1, i => by
    simp only [agL]
    by_cases q : ok2 Bf L nB nS i
    · rw [if_pos q]
      have := agL_len (Bf := Bf) (L := L) (nB := nB) (nS := nS) n (i + 1)
      simp only [List.length_cons]
      omega
    · rw [if_neg q]; simp
theorem agL_ok {Bf : Nat → Int32} {L nB nS : Nat} : ∀ n i, ∀ x ∈ agL Bf L nB nS n i, x.1 < nB ∧ x.2 < nS
  | 0, _, x, hx => by simp [agL] at hx
  | n + 1, i, x, hx => by
    simp only [agL] at hx
    by_cases q : ok2 Bf L nB nS i
    · rw [if_pos q] at hx
      rcases List.mem_cons.mp hx with rfl | hx
      · exact ⟨q.2.2.1, q.2.2.2.2⟩
      · exact agL_ok n _ x hx
    · rw [if_neg q] at hx; simp at hx
def agOk (nB nS : Nat) (A : List (Nat × Nat)) : Prop := A.length ≤ 10 ∧ ∀ x ∈ A, x.1 < nB ∧ x.2 < nS
def rdAt (r : Nat → Int32) (A : List (Nat × Nat)) : Prop := ∀ (k : Nat) (x : Nat × Nat), A[k]? = some x → r k = nI (10 * x.1 + x.2)
theorem rdAt_up {I : xI} {a : Nat} {A : List (Nat × Nat)} {x : Nat × Nat} (h : rdAt (I a) A) : rdAt (xu I a A.length (nI (10 * x.1 + x.2)) a) (A ++ [x]) := by
  intro k y hk
  by_cases q : k = A.length
  · subst q
    rw [List.getElem?_append_right (Nat.le_refl _), Nat.sub_self] at hk
    cases hk
    exact xu_eq
  · have hl := (List.getElem?_eq_some_iff.mp hk).1
    simp only [List.length_append, List.length_cons, List.length_nil] at hl
    rw [List.getElem?_append_left (by omega)] at hk
    rw [xu_col q]
    exact h k y hk
def AgC (I : xI) (A : List (Nat × Nat)) : Prop := I 25 4 = nI A.length ∧ rdAt (I 26) A
def AgM (I : xI) (A : List (Nat × Nat)) : Prop := I 57 31 = nI A.length ∧ rdAt (I 77) A
section
variable {I0 : xI} {J : xJ} {nB nS k L : Nat} {ls : lwT} {Bf : Nat → Int32}
theorem c_take (h : Wd I0 nB nS ls) (hr : Rw I0 J k L Bf) : ∀ (m i : Nat) (P : List (Nat × Nat)), i + m = 10 → P.length = i → ∀ (I : xI) (x3 : Option Value), xFr [25, 26] I0 I → AgC I P → WP 5 (1000000, 0, 0) none M_X0_take (fun r g i j => r = none ∧ g = xG1 ∧ xFr [25, 26] I0 i ∧ j = J ∧ AgC i (P ++ agL Bf L nB nS m (P.length))) 7 [some (.ref 25), some (.ref (45 + 2 * k)), some (.int (nI i)), x3] [] xG1 I J := by
  intro m
  induction m with
  | zero =>
    intro i P hi hP I x3 hI hA
    obtain rfl : i = 10 := by omega
    refine iX0_take_7 (iX0_take_8 (iX0_take_10 (fun h10 => ?_) (fun h10 => by first | exact absurd (Int32.le_refl _) h10 | exact absurd h10 (Int32.le_refl _))))
    refine iX0_take_65 ?_
    exact ⟨rfl, rfl, hI, rfl, by simp only [agL, List.append_nil]; exact hA⟩
  | succ m ih =>
    intro i P hi hP I x3 hI hA
    have fI := Fq.of hI (by decide)
    have wI := h.fr fI
    have rI := hr.fr fI Fj.rf
    have hnB := h.2.1
    have hnS := h.2.2.2.1
    have hL := hr.2.2.2.2.1
    have hsx := xSh_at hr.1
    have e0 : (2 : Int32) * nI i = nI (2 * i) := pk_mul 2 i
    have e1 : nI (2 * i) + 1 = nI (2 * i + 1) := nI_1 _
    have ei : nI i + (1) = nI (i + 1) := nI_1 _
    have f10 : ¬ (10 : Int32) ≤ nI i := nI_ge (b := 10) (a := i) (by omega) (by omega)
    by_cases q : ok2 Bf L nB nS i
    · obtain ⟨q1, q2, q3, q4, q5⟩ := q
      have b0 : bN Bf L (2 * i) = nI (bv Bf (2 * i)) := by unfold bN; rw [if_pos (by omega)]; exact bv_nI q2
      have b1 : bN Bf L (2 * i + 1) = nI (bv Bf (2 * i + 1)) := by unfold bN; rw [if_pos (by omega)]; exact bv_nI q4
      have eA : agL Bf L nB nS (m + 1) i = (bv Bf (2 * i), bv Bf (2 * i + 1)) :: agL Bf L nB nS m (i + 1) := by simp only [agL]; rw [if_pos ⟨q1, q2, q3, q4, q5⟩]
      rw [hP, eA]
      generalize bv Bf (2 * i) = b at *
      generalize bv Bf (2 * i + 1) = s at *
      have hr0 : f_reading I (nI b) (nI s) = nI (10 * b + s) := by
        have z1 : f_has I (nI b) 0 = 1 := has_b wI q3 (w := 0) (by omega)
        have z2 : f_has I (nI s) 4 = 1 := has_s wI q5 (w := 4) (Or.inl rfl)
        unfold f_reading
        rw [z1, z2, if_neg (by decide), if_neg (by decide), bs_mk]
      have n38 : 0 ≤ nI (10 * b + s) := nI_pos' (by omega)
      obtain ⟨hA1, hA2⟩ := hA
      rw [hP] at hA1
      refine iX0_take_7 (iX0_take_8 (iX0_take_10 (fun h10 => absurd h10 (f10)) (fun h10 => ?_)))
      refine iX0_take_13 (iX0_take_14 (iX0_take_17 (iX0_take_18 (iX0_take_19 (iX0_take_20 ?_)))))
      rw [e0]
      refine iX0_take_21 hsx.1 (s_byteN rI (by omega)) (iX0_take_24 (iX0_take_25 (iX0_take_26 (iX0_take_27 (iX0_take_28 (iX0_take_29 ?_))))))
      rw [e0, e1]
      refine iX0_take_30 hsx.1 (s_byteN rI (by omega)) ?_
      rw [b0, b1]
      refine iX0_take_33 (s_X5_reading _ _) ?_
      rw [hr0]
      refine iX0_take_36 (iX0_take_37 (iX0_take_38 (fun h38 => ?_) (fun h38 => by first | exact absurd (n38) h38 | exact absurd h38 (n38))))
      refine iX0_take_42 (iX0_take_43 (iX0_take_46 (iX0_take_47 (iX0_take_48 ?_))))
      rw [hA1]
      refine iX0_take_51 (iX0_take_52 (iX0_take_53 (iX0_take_54 (iX0_take_57 (iX0_take_58 (vp_in_nI (by omega) (by omega)) (iX0_take_59 (iX0_take_62 ?_)))))))
      rw [nI_clamp (by omega), ei]
      have := ih (i + 1) (P ++ [(b, s)]) (by omega) (by simp [hP]) (xu (xu I 25 4 (nI (i + 1))) 26 i (nI (10 * b + s))) (some (.int (nI (10 * b + s)))) ((hI.up (by decide)).up (by decide)) ⟨by rw [xu_row (by decide), xu_eq]; simp [hP], by
        have := rdAt_up (I := xu I 25 4 (nI (i + 1))) (a := 26) (A := P) (x := (b, s)) (by rw [xu_rowf (by decide)]; exact hA2)
        rw [hP] at this
        exact this⟩
      simp only [List.append_assoc, List.cons_append, List.nil_append, List.length_append, List.length_cons, List.length_nil, hP] at this
      exact this
    · have eA : agL Bf L nB nS (m + 1) i = [] := by simp only [agL]; rw [if_neg q]
      rw [hP, eA, List.append_nil]
      refine iX0_take_7 (iX0_take_8 (iX0_take_10 (fun h10 => absurd h10 (f10)) (fun h10 => ?_)))
      refine iX0_take_13 (iX0_take_14 (iX0_take_17 (iX0_take_18 (iX0_take_19 (iX0_take_20 ?_)))))
      rw [e0]
      refine iX0_take_21 hsx.1 (s_byteN rI (by omega)) (iX0_take_24 (iX0_take_25 (iX0_take_26 (iX0_take_27 (iX0_take_28 (iX0_take_29 ?_))))))
      rw [e0, e1]
      refine iX0_take_30 hsx.1 (s_byteN rI (by omega)) (iX0_take_33 (s_X5_reading _ _) (iX0_take_36 (iX0_take_37 (iX0_take_38 (fun h38 => ?_) (fun h38 => ?_)))))
      · exfalso
        apply q
        have z0 : ¬ f_has I (bN Bf L (2 * i)) 0 = 0 := fun z => absurd h38 (by unfold f_reading; rw [if_pos z]; decide)
        have z1 : ¬ f_has I (bN Bf L (2 * i + 1)) 4 = 0 := fun z => absurd h38 (by unfold f_reading; rw [if_neg z0, if_pos z]; decide)
        have p0 : ¬ bN Bf L (2 * i) < 0 := by unfold f_has at z0; grind
        have p1 : ¬ bN Bf L (2 * i + 1) < 0 := by unfold f_has at z1; grind
        have x2 : 2 * i + 1 < L := by
          by_cases z : 2 * i + 1 < L
          · exact z
          · exfalso
            apply p1
            unfold bN
            rw [if_neg z]
            decide
        have y0 : bN Bf L (2 * i) = Bf (2 * i) := by unfold bN; rw [if_pos (by omega)]
        have y1 : bN Bf L (2 * i + 1) = Bf (2 * i + 1) := by unfold bN; rw [if_pos (by omega)]
        rw [y0] at z0 p0
        rw [y1] at z1 p1
        refine ⟨x2, p0, ?_, p1, ?_⟩
        · refine hasB_lt wI (bv_31 p0) ?_
          rw [← bv_nI p0]; exact z0
        · refine hasS_lt wI (bv_31 p1) ?_
          rw [← bv_nI p1]; exact z1
      · refine iX0_take_41 ?_
        exact ⟨rfl, rfl, hI, rfl, hA⟩
theorem s_X0_take (h : Wd I0 nB nS ls) (hr : Rw I0 J k L Bf) : Spec 5 (1000000, 0, 0) M_X0_take [.ref 25, .ref (45 + 2 * k)] xG1 I0 J (fun r g i j => r = none ∧ g = xG1 ∧ xFr [25, 26] I0 i ∧ j = J ∧ AgC i (agL Bf L nB nS 10 0)) := by
  refine spec_of (L := [some (.ref 25), some (.ref (45 + 2 * k)), none, none]) (by decide) (Nat.le_of_ble_eq_true rfl) rfl ?_
  have := c_take h hr 10 0 [] (by omega) rfl (xu I0 25 4 0) none (xFr.rf.up (by decide)) ⟨xu_eq, fun k x hk => by simp at hk⟩
  exact iX0_take_0 (iX0_take_1 (iX0_take_2 (iX0_take_5 (iX0_take_6 this))))
theorem m_take (h : Wd I0 nB nS ls) (hr : Rw I0 J k L Bf) : ∀ (m i : Nat) (P : List (Nat × Nat)), i + m = 10 → P.length = i → ∀ (I : xI), Fq I0 I → AgM I P → WP 5 (1000000, 0, 0) none M_X12_layAgenda (fun r g i j => r = none ∧ g = xG1 ∧ Fq I0 i ∧ j = J ∧ AgM i (P ++ agL Bf L nB nS m (P.length))) 5 [some (.ref 57), some (.int (nI k))] [] xG1 I J := by
  intro m
  induction m with
  | zero =>
    intro i P hi hP I hI hA
    obtain rfl : i = 10 := by omega
    refine iX12_layAgenda_5 (iX12_layAgenda_6 ?_)
    rw [hA.1, hP]
    refine iX12_layAgenda_9 (iX12_layAgenda_11 (fun h11 => ?_) (fun h11 => by first | exact absurd (Int32.le_refl _) h11 | exact absurd h11 (Int32.le_refl _)))
    refine iX12_layAgenda_119 ?_
    exact ⟨rfl, rfl, hI, rfl, by simp only [agL, List.append_nil]; exact hA⟩
  | succ m ih =>
    intro i P hi hP I hI hA
    have wI := h.fr hI
    have rI := hr.fr hI Fj.rf
    have hnB := h.2.1
    have hnS := h.2.2.2.1
    have hk := hr.1
    have hL := hr.2.2.2.2.1
    have e0 : (2 : Int32) * nI i = nI (2 * i) := pk_mul 2 i
    have e1 : nI (2 * i) + 1 = nI (2 * i + 1) := nI_1 _
    have ei : nI i + (1) = nI (i + 1) := nI_1 _
    have f10 : ¬ (10 : Int32) ≤ nI i := nI_ge (b := 10) (a := i) (by omega) (by omega)
    have ek : I 88 (nI k).toNatClampNeg = nI L := by rw [nI_clamp (by omega)]; exact rI.2.2.2.2.2.2.1
    have hA1 : I 57 31 = nI i := by rw [hA.1, hP]
    by_cases q : ok2 Bf L nB nS i
    · obtain ⟨q1, q2, q3, q4, q5⟩ := q
      have b0 : Bf (2 * i) = nI (bv Bf (2 * i)) := bv_nI q2
      have b1 : Bf (2 * i + 1) = nI (bv Bf (2 * i + 1)) := bv_nI q4
      have eA : agL Bf L nB nS (m + 1) i = (bv Bf (2 * i), bv Bf (2 * i + 1)) :: agL Bf L nB nS m (i + 1) := by simp only [agL]; rw [if_pos ⟨q1, q2, q3, q4, q5⟩]
      rw [hP, eA]
      generalize bv Bf (2 * i) = b at *
      generalize bv Bf (2 * i + 1) = s at *
      have z0 : ¬ f_has I (nI b) 0 = 0 := by rw [show f_has I (nI b) 0 = 1 from has_b wI q3 (w := 0) (by omega)]; decide
      have z1 : ¬ f_has I (nI s) 4 = 0 := by rw [show f_has I (nI s) 4 = 1 from has_s wI q5 (w := 4) (Or.inl rfl)]; decide
      have sa0 := s_atN rI (x := 2 * i) (by omega)
      have sa1 := s_atN rI (x := 2 * i + 1) (by omega)
      rw [b0] at sa0
      rw [b1] at sa1
      refine iX12_layAgenda_5 (iX12_layAgenda_6 ?_)
      rw [hA1]
      refine iX12_layAgenda_9 (iX12_layAgenda_11 (fun h11 => absurd h11 (f10)) (fun h11 => ?_))
      refine iX12_layAgenda_14 (iX12_layAgenda_15 (iX12_layAgenda_16 ?_))
      rw [hA1]
      refine iX12_layAgenda_19 (iX12_layAgenda_20 (iX12_layAgenda_21 (iX12_layAgenda_22 (iX12_layAgenda_23 (iX12_layAgenda_26 (iX12_layAgenda_27 (vp_in_nI (by omega) (by omega)) ?_))))))
      rw [e0, e1, ek]
      refine iX12_layAgenda_28 (fun h28 => absurd h28 (nI_ge q1 (by omega))) (fun h28 => ?_)
      refine iX12_layAgenda_31 (iX12_layAgenda_32 (iX12_layAgenda_33 (iX12_layAgenda_34 (iX12_layAgenda_35 (iX12_layAgenda_36 ?_)))))
      rw [hA1]
      refine iX12_layAgenda_39 ?_
      rw [e0]
      refine iX12_layAgenda_40 sa0 (iX12_layAgenda_43 (s_X12_isBill _) ?_)
      rw [hb_in wI]
      refine iX12_layAgenda_46 (fun h46 => absurd h46 (z0)) (fun h46 => ?_)
      refine iX12_layAgenda_49 (iX12_layAgenda_50 (iX12_layAgenda_51 (iX12_layAgenda_52 (iX12_layAgenda_53 (iX12_layAgenda_54 ?_)))))
      rw [hA1]
      refine iX12_layAgenda_57 (iX12_layAgenda_58 (iX12_layAgenda_59 ?_))
      rw [e0, e1]
      refine iX12_layAgenda_60 sa1 (iX12_layAgenda_63 (s_X12_isSenator _) ?_)
      rw [hs_in wI]
      refine iX12_layAgenda_66 (fun h66 => absurd h66 (z1)) (fun h66 => ?_)
      refine iX12_layAgenda_69 (iX12_layAgenda_70 (iX12_layAgenda_73 (iX12_layAgenda_74 (iX12_layAgenda_77 (iX12_layAgenda_79 (iX12_layAgenda_80 (iX12_layAgenda_81 (iX12_layAgenda_82 (iX12_layAgenda_83 ?_)))))))))
      rw [hA1]
      refine iX12_layAgenda_86 ?_
      rw [e0]
      refine iX12_layAgenda_87 sa0 (iX12_layAgenda_90 (iX12_layAgenda_91 (iX12_layAgenda_92 (iX12_layAgenda_93 (iX12_layAgenda_94 (iX12_layAgenda_95 ?_))))))
      rw [hA1]
      refine iX12_layAgenda_98 (iX12_layAgenda_99 (iX12_layAgenda_100 ?_))
      rw [e0, e1]
      refine iX12_layAgenda_101 sa1 (iX12_layAgenda_104 ?_)
      rw [bs_mk]
      refine iX12_layAgenda_105 (vp_in_nI (by omega) (by omega)) (iX12_layAgenda_106 (iX12_layAgenda_107 (iX12_layAgenda_108 (iX12_layAgenda_111 (iX12_layAgenda_112 (iX12_layAgenda_113 (iX12_layAgenda_116 ?_)))))))
      rw [nI_clamp (by omega), xu_row (by decide), hA1, ei]
      have := ih (i + 1) (P ++ [(b, s)]) (by omega) (by simp [hP]) (xu (xu I 77 i (nI (10 * b + s))) 57 31 (nI (i + 1))) ((hI.up (by decide)).upk (Or.inl rfl)) ⟨by rw [xu_eq]; simp [hP], by
        rw [xu_rowf (by decide)]
        have := rdAt_up (I := I) (a := 77) (A := P) (x := (b, s)) hA.2
        rw [hP] at this
        exact this⟩
      simp only [List.append_assoc, List.cons_append, List.nil_append, List.length_append, List.length_cons, List.length_nil, hP] at this
      exact this
    · have eA : agL Bf L nB nS (m + 1) i = [] := by simp only [agL]; rw [if_neg q]
      rw [hP, eA, List.append_nil]
      by_cases q1 : 2 * i + 1 < L
      · refine iX12_layAgenda_5 (iX12_layAgenda_6 ?_)
        rw [hA1]
        refine iX12_layAgenda_9 (iX12_layAgenda_11 (fun h11 => absurd h11 (f10)) (fun h11 => ?_))
        refine iX12_layAgenda_14 (iX12_layAgenda_15 (iX12_layAgenda_16 ?_))
        rw [hA1]
        refine iX12_layAgenda_19 (iX12_layAgenda_20 (iX12_layAgenda_21 (iX12_layAgenda_22 (iX12_layAgenda_23 (iX12_layAgenda_26 (iX12_layAgenda_27 (vp_in_nI (by omega) (by omega)) ?_))))))
        rw [e0, e1, ek]
        refine iX12_layAgenda_28 (fun h28 => absurd h28 (nI_ge q1 (by omega))) (fun h28 => ?_)
        refine iX12_layAgenda_31 (iX12_layAgenda_32 (iX12_layAgenda_33 (iX12_layAgenda_34 (iX12_layAgenda_35 (iX12_layAgenda_36 ?_)))))
        rw [hA1]
        refine iX12_layAgenda_39 ?_
        rw [e0]
        refine iX12_layAgenda_40 (s_atN rI (by omega)) (iX12_layAgenda_43 (s_X12_isBill _) ?_)
        rw [hb_in wI]
        refine iX12_layAgenda_46 (fun h46 => ?_) (fun h46 => ?_)
        · refine iX12_layAgenda_119 ?_
          exact ⟨rfl, rfl, hI, rfl, hA⟩
        · refine iX12_layAgenda_49 (iX12_layAgenda_50 (iX12_layAgenda_51 (iX12_layAgenda_52 (iX12_layAgenda_53 (iX12_layAgenda_54 ?_)))))
          rw [hA1]
          refine iX12_layAgenda_57 (iX12_layAgenda_58 (iX12_layAgenda_59 ?_))
          rw [e0, e1]
          refine iX12_layAgenda_60 (s_atN rI (by omega)) (iX12_layAgenda_63 (s_X12_isSenator _) ?_)
          rw [hs_in wI]
          refine iX12_layAgenda_66 (fun h66 => ?_) (fun h66 => ?_)
          · refine iX12_layAgenda_119 ?_
            exact ⟨rfl, rfl, hI, rfl, hA⟩
          · exfalso
            apply q
            have p0 : ¬ Bf (2 * i) < 0 := by unfold f_has at h46; grind
            have p1 : ¬ Bf (2 * i + 1) < 0 := by unfold f_has at h66; grind
            refine ⟨q1, p0, ?_, p1, ?_⟩
            · refine hasB_lt wI (bv_31 p0) ?_
              rw [← bv_nI p0]; exact h46
            · refine hasS_lt wI (bv_31 p1) ?_
              rw [← bv_nI p1]; exact h66
      · refine iX12_layAgenda_5 (iX12_layAgenda_6 ?_)
        rw [hA1]
        refine iX12_layAgenda_9 (iX12_layAgenda_11 (fun h11 => absurd h11 (f10)) (fun h11 => ?_))
        refine iX12_layAgenda_14 (iX12_layAgenda_15 (iX12_layAgenda_16 ?_))
        rw [hA1]
        refine iX12_layAgenda_19 (iX12_layAgenda_20 (iX12_layAgenda_21 (iX12_layAgenda_22 (iX12_layAgenda_23 (iX12_layAgenda_26 (iX12_layAgenda_27 (vp_in_nI (by omega) (by omega)) ?_))))))
        rw [e0, e1, ek]
        refine iX12_layAgenda_28 (fun h28 => ?_) (fun h28 => by first | exact absurd (nI_le (a := L) (b := 2 * i + 1) (by omega) (by omega)) h28 | exact absurd h28 (nI_le (a := L) (b := 2 * i + 1) (by omega) (by omega)))
        refine iX12_layAgenda_119 ?_
        exact ⟨rfl, rfl, hI, rfl, hA⟩
theorem s_X12_layAgenda (h : Wd I0 nB nS ls) (hr : Rw I0 J k L Bf) : Spec 5 (1000000, 0, 0) M_X12_layAgenda [.ref 57, .int (nI k)] xG1 I0 J (fun r g i j => r = none ∧ g = xG1 ∧ Fq I0 i ∧ j = J ∧ AgM i (agL Bf L nB nS 10 0)) := by
  refine spec_of (L := [some (.ref 57), some (.int (nI k))]) (by decide) (Nat.le_of_ble_eq_true rfl) rfl ?_
  have := m_take h hr 10 0 [] (by omega) rfl (xu I0 57 31 0) (Fq.rf.upk (Or.inl rfl)) ⟨xu_eq, fun k x hk => by simp at hk⟩
  exact iX12_layAgenda_0 (iX12_layAgenda_1 (iX12_layAgenda_2 this))
end
theorem ag_ok {Bf : Nat → Int32} {L nB nS : Nat} : agOk nB nS (agL Bf L nB nS 10 0) := ⟨agL_len 10 0, agL_ok 10 0⟩
