/-! ===== the class's weights ===== -/
def CS (r27 : Nat → Int64) (r28 : Nat → Int32) (cl : List (Nat × Nat)) : Prop := (∀ (c : Nat) (p : Nat × Nat), cl[c]? = some p → r27 c = lN p.1 ∧ (p.1 ≠ 0 → r28 c = nI p.2)) ∧ (∀ c : Nat, cl.length ≤ c → c < 11 → r27 c = 0) ∧ ∀ p ∈ cl, p.2 ≤ 95
theorem CS.set {I : xI} {J : xJ} {A S : List (Nat × Nat)} {p : Nat × Nat} (h : CS (J 27) (I 28) (A ++ p :: S)) {w th : Nat} (ht : th ≤ 95) : CS (xu J 27 A.length (lN w) 27) (xu I 28 A.length (nI th) 28) (A ++ (w, th) :: S) := by
  obtain ⟨h1, h2, h3⟩ := h
  refine ⟨fun c q hq => ?_, fun c hc h11 => ?_, fun q hq => ?_⟩
  · by_cases e : c = A.length
    · subst e
      rw [List.getElem?_append_right (Nat.le_refl _), Nat.sub_self] at hq
      cases hq
      exact ⟨xu_eq, fun _ => xu_eq⟩
    · rw [xu_col e, xu_col e]
      refine h1 c q ?_
      by_cases e2 : c < A.length
      · rw [List.getElem?_append_left e2] at hq ⊢; exact hq
      · rw [List.getElem?_append_right (by omega)] at hq ⊢
        obtain ⟨k, hk⟩ : ∃ k, c - A.length = k + 1 := ⟨c - A.length - 1, by omega⟩
        rw [hk] at hq ⊢
        exact hq
  · simp only [List.length_append, List.length_cons] at hc
    rw [xu_col (by omega)]
    exact h2 c (by simp only [List.length_append, List.length_cons]; omega) h11
  · rcases List.mem_append.mp hq with hq | hq
    · exact h3 q (List.mem_append_left _ hq)
    · rcases List.mem_cons.mp hq with rfl | hq
      · exact ht
      · exact h3 q (List.mem_append_right _ (List.mem_cons_of_mem _ hq))
theorem CS.skip {r27 : Nat → Int64} {r28 : Nat → Int32} {A S : List (Nat × Nat)} {p : Nat × Nat} (h : CS r27 r28 (A ++ p :: S)) (h0 : p.1 = 0) {th : Nat} (ht : th ≤ 95) : CS r27 r28 (A ++ (0, th) :: S) := by
  obtain ⟨h1, h2, h3⟩ := h
  refine ⟨fun c q hq => ?_, fun c hc h11 => ?_, fun q hq => ?_⟩
  · by_cases e : c = A.length
    · subst e
      rw [List.getElem?_append_right (Nat.le_refl _), Nat.sub_self] at hq
      cases hq
      have := (h1 A.length p (by rw [List.getElem?_append_right (Nat.le_refl _), Nat.sub_self]; rfl)).1
      rw [h0] at this
      exact ⟨this, fun z => absurd rfl z⟩
    · refine h1 c q ?_
      by_cases e2 : c < A.length
      · rw [List.getElem?_append_left e2] at hq ⊢; exact hq
      · rw [List.getElem?_append_right (by omega)] at hq ⊢
        obtain ⟨k, hk⟩ : ∃ k, c - A.length = k + 1 := ⟨c - A.length - 1, by omega⟩
        rw [hk] at hq ⊢
        exact hq
  · simp only [List.length_append, List.length_cons] at hc
    exact h2 c (by simp only [List.length_append, List.length_cons]; omega) h11
  · rcases List.mem_append.mp hq with hq | hq
    · exact h3 q (List.mem_append_left _ hq)
    · rcases List.mem_cons.mp hq with rfl | hq
      · exact ht
      · exact h3 q (List.mem_append_right _ (List.mem_cons_of_mem _ hq))
theorem CS.push {I : xI} {J : xJ} {A : List (Nat × Nat)} (h : CS (J 27) (I 28) A) {w : Nat} : CS (xu J 27 A.length (lN w) 27) (xu I 28 A.length (nI 0) 28) (A ++ [(w, 0)]) := by
  obtain ⟨h1, h2, h3⟩ := h
  refine ⟨fun c q hq => ?_, fun c hc h11 => ?_, fun q hq => ?_⟩
  · by_cases e : c = A.length
    · subst e
      rw [List.getElem?_append_right (Nat.le_refl _), Nat.sub_self] at hq
      cases hq
      exact ⟨xu_eq, fun _ => xu_eq⟩
    · have hl := (List.getElem?_eq_some_iff.mp hq).1
      simp only [List.length_append, List.length_cons, List.length_nil] at hl
      rw [List.getElem?_append_left (by omega)] at hq
      rw [xu_col e, xu_col e]
      exact h1 c q hq
  · simp only [List.length_append, List.length_cons, List.length_nil] at hc
    rw [xu_col (by omega)]
    exact h2 c (by omega) h11
  · rcases List.mem_append.mp hq with hq | hq
    · exact h3 q hq
    · simp at hq
      rw [hq]
      exact Nat.zero_le _
theorem CS.at {r27 : Nat → Int64} {r28 : Nat → Int32} {A S : List (Nat × Nat)} {p : Nat × Nat} (h : CS r27 r28 (A ++ p :: S)) : r27 A.length = lN p.1 ∧ (p.1 ≠ 0 → r28 A.length = nI p.2) ∧ p.2 ≤ 95 := by
  have := h.1 A.length p (by rw [List.getElem?_append_right (Nat.le_refl _), Nat.sub_self]; rfl)
  exact ⟨this.1, this.2, h.2.2 p (List.mem_append_right _ List.mem_cons_self)⟩
section
variable {I0 : xI} {J0 : xJ} {nB nS : Nat} {ls : lwT} {A : List (Nat × Nat)}
def gq (cr th : Nat → Nat) (p : Nat × Nat) : Nat × Nat := (p.1 * (12 - cr p.2), th p.2)
theorem c_step (h : Wd I0 nB nS ls) (hA : agOk nB nS A) (hAg : AgC I0 A) {j : Nat} {x : Nat × Nat} (hx : A[j]? = some x) {cl : List (Nat × Nat)} (hl : cl.length = j + 1) (ht : lsum cl (fun _ => 1) ≤ 12 ^ j) (go : Bool) : ∀ (S P : List (Nat × Nat)), P ++ S = cl → ∀ (I : xI) (J : xJ) (x8 : Option Value), xFr [4, 5, 28] I0 I → xFJ [27] J0 J → CS (J 27) (I 28) (P.map (gq (crx I0 ls x) (thx I0 x)) ++ S) → WP 15 (1000000, 0, 0) none M_X0_step (fun r g i jj => r = some (.long (lN (psd (crx I0 ls x) cl))) ∧ g = xG1 ∧ xFr [4, 5, 28] I0 i ∧ xFJ [27] J0 jj ∧ CS (jj 27) (i 28) (stL (crx I0 ls x) (thx I0 x) go cl)) 22 [some (.ref 25), some (.int (nI j)), some (.int (bI go)), some (.long (lN (psd (crx I0 ls x) P))), none, some (.long (lN (lsum P (crx I0 ls x)))), none, some (.int (nI P.length)), x8] [] xG1 I J := by
  have hj10 : j < 10 := by have := (List.getElem?_eq_some_iff.mp hx).1; have := hA.1; omega
  obtain ⟨hb, hs⟩ := hA.2 x (List.mem_of_getElem? hx)
  have hb10 : x.1 < 10 := by have := h.2.1; omega
  have hs10 : x.2 < 10 := by have := h.2.2.2.1; omega
  have hp10 : 12 ^ j ≤ 12 ^ 9 := Nat.pow_le_pow_right (by omega) (by omega)
  have hbl := h.2.2.2.2.2.2.1
  intro S
  induction S with
  | nil =>
    intro P hP I J x8 hI hJ hC
    rw [List.append_nil] at hP hC
    subst hP
    have t25 : nI j < nI P.length := nI_lt (by omega) (by omega)
    have ej : nI j + 1 = nI (j + 1) := nI_1 _
    have hlm : (P.map (gq (crx I0 ls x) (thx I0 x))).length = j + 1 := by rw [List.length_map]; exact hl
    have push : ∀ w, CS (xu J 27 (j + 1) (lN w) 27) (xu I 28 (j + 1) (nI 0) 28) (P.map (gq (crx I0 ls x) (thx I0 x)) ++ [(w, 0)]) := fun w => by
      have := hC.push (w := w)
      rw [hlm] at this
      exact this
    cases go with
    | true =>
      refine iX0_step_22 (iX0_step_24 (iX0_step_25 (fun h25 => ?_) (fun h25 => by first | exact absurd (t25) h25 | exact absurd h25 (t25))))
      refine iX0_step_158 (iX0_step_159 (iX0_step_162 (iX0_step_163 (iX0_step_164 (iX0_step_165 (iX0_step_166 (fun h166 => absurd h166 ((by decide : ¬ bI true = 0))) (fun h166 => ?_)))))))
      refine iX0_step_169 (iX0_step_171 ?_)
      rw [ej]
      refine iX0_step_175 (vp_in_nI (by omega) (by omega)) (iX0_step_176 (iX0_step_177 (iX0_step_180 (iX0_step_181 (iX0_step_182 (iX0_step_183 ?_))))))
      rw [ej]
      refine iX0_step_184 (vp_in_nI (by omega) (by omega)) (iX0_step_185 (iX0_step_186 ?_))
      rw [nI_clamp (by omega)]
      exact ⟨rfl, rfl, hI.up (by decide), hJ.up (by decide), push (lsum P (crx I0 ls x))⟩
    | false =>
      refine iX0_step_22 (iX0_step_24 (iX0_step_25 (fun h25 => ?_) (fun h25 => by first | exact absurd (t25) h25 | exact absurd h25 (t25))))
      refine iX0_step_158 (iX0_step_159 (iX0_step_162 (iX0_step_163 (iX0_step_164 (iX0_step_165 (iX0_step_166 (fun h166 => ?_) (fun h166 => by first | exact absurd ((rfl : bI false = 0)) h166 | exact absurd h166 ((rfl : bI false = 0)))))))))
      refine iX0_step_174 ?_
      rw [ej]
      refine iX0_step_175 (vp_in_nI (by omega) (by omega)) (iX0_step_176 (iX0_step_177 (iX0_step_180 (iX0_step_181 (iX0_step_182 (iX0_step_183 ?_))))))
      rw [ej]
      refine iX0_step_184 (vp_in_nI (by omega) (by omega)) (iX0_step_185 (iX0_step_186 ?_))
      rw [nI_clamp (by omega)]
      exact ⟨rfl, rfl, hI.up (by decide), hJ.up (by decide), push 0⟩
  | cons p S ih =>
    intro P hP I J x8 hI hJ hC
    have fI := Fq.of hI (by decide)
    have wI := h.fr fI
    obtain ⟨hB, hS⟩ := wI.le
    have hPl : P.length + S.length = j := by
      have := congrArg List.length hP
      simp only [List.length_append, List.length_cons] at this
      omega
    have f25 : ¬ nI j < nI P.length := nI_nlt (by omega) (by omega)
    have ei : nI P.length + (1) = nI (P.length + 1) := nI_1 _
    have hCa := hC.at
    rw [List.length_map] at hCa
    obtain ⟨c1, c2, c3⟩ := hCa
    have hcr := crx_le (I := I0) (ls := ls) (x := x) p.2
    have hth := thx_le (I := I0) (x := x) p.2
    have hP2 : (P ++ [p]) ++ S = cl := by rw [List.append_assoc]; exact hP
    have lP2 : (P ++ [p]).length = P.length + 1 := by simp
    have sP : psd (crx I0 ls x) (P ++ [p]) = psd (crx I0 ls x) P + p.1 * (12 - crx I0 ls x p.2) := by unfold psd; rw [lsum_app]; simp [lsum]
    have sC : lsum (P ++ [p]) (crx I0 ls x) = lsum P (crx I0 ls x) + p.1 * crx I0 ls x p.2 := by rw [lsum_app]; simp [lsum]
    have mP : (P ++ [p]).map (gq (crx I0 ls x) (thx I0 x)) ++ S = P.map (gq (crx I0 ls x) (thx I0 x)) ++ gq (crx I0 ls x) (thx I0 x) p :: S := by simp
    have tp : p.1 ≤ 12 ^ 9 := by
      have : lsum cl (fun _ => 1) = lsum P (fun _ => 1) + (p.1 * 1 + lsum S (fun _ => 1)) := by rw [← hP, lsum_app]; rfl
      omega
    have ih := ih (P ++ [p]) hP2
    rw [sP, sC, lP2, mP] at ih
    by_cases q : p.1 = 0
    · have ih := ih I J x8 hI hJ (by
        have := hC.skip q hth
        unfold gq
        rw [q, Nat.zero_mul]
        exact this)
      rw [q, Nat.zero_mul, Nat.zero_mul, Nat.add_zero, Nat.add_zero] at ih
      refine iX0_step_22 (iX0_step_24 (iX0_step_25 (fun h25 => absurd h25 (f25)) (fun h25 => ?_)))
      refine iX0_step_28 (iX0_step_29 (iX0_step_32 (iX0_step_34 (vp_in_nI (by omega) (by omega)) ?_)))
      rw [nI_clamp (by omega), c1, q]
      refine iX0_step_35 (iX0_step_36 (iX0_step_37 (fun h37 => absurd h37 ((by decide : ¬ ¬ lg_cmp (lN 0) 0 = 0))) (fun h37 => ?_)))
      refine iX0_step_40 (iX0_step_152 (iX0_step_155 ?_))
      rw [ei]
      exact ih
    · have c2 := c2 q
      have e26 : ∀ I', xFr [4, 5, 28] I0 I' → I' 26 (nI j).toNatClampNeg = nI (10 * x.1 + x.2) := fun I' hI' => by
        rw [nI_clamp (by omega), hI' 26 (by decide)]
        exact hAg.2 j x hx
      have e6 : f_get I 0 6 = I0 13 0 := (f_get_its 6 (by omega) (by omega)).trans (by rw [fI.1 13 (by decide) (by decide)])
      have e7 : f_get I 0 7 = I0 14 0 := (f_get_its 7 (by omega) (by omega)).trans (by rw [fI.1 14 (by decide) (by decide)])
      have sp := s_X5_crying (J := J) wI hb hs (I0 13 0) (I0 14 0) (nI p.2)
      rw [show I 7 x.1 = I0 7 x.1 by rw [fI.1 7 (by decide) (by decide)], th_eq hbl hb10 c3, show cyN I ls (nI (thx I0 x p.2)) (I0 13 0) (I0 14 0) x.1 x.2 = crx I0 ls x p.2 from cyN_fr fI] at sp
      have n37 : ¬ lg_cmp (lN p.1) 0 = 0 := by rw [lgc_0, lN_0 (by omega)]; exact q
      generalize hc : crx I0 ls x p.2 = c at *
      have elc : (nI c).toInt64 = lN c := nI_l (by omega)
      have elm : (12 - nI c).toInt64 = lN (12 - c) := by rw [show (12 : Int32) - nI c = nI (12 - c) from pk_sub hcr]; exact nI_l (by omega)
      have key : ∀ I1, xFr [4, 5] I I1 → WP 15 (1000000, 0, 0) none M_X0_step (fun r g i jj => r = some (.long (lN (psd (crx I0 ls x) cl))) ∧ g = xG1 ∧ xFr [4, 5, 28] I0 i ∧ xFJ [27] J0 jj ∧ CS (jj 27) (i 28) (stL (crx I0 ls x) (thx I0 x) go cl)) 125 [some (.ref 25), some (.int (nI j)), some (.int (bI go)), some (.long (lN (psd (crx I0 ls x) P + p.1 * (12 - c)))), none, some (.long (lN (lsum P (crx I0 ls x) + p.1 * c))), none, some (.int (nI P.length)), some (.int (nI c))] [] xG1 I1 (xu J 27 P.length (lN (p.1 * (12 - c)))) := by
        intro I1 h1
        have h01 := hI.tr (h1.mono (T := [4, 5, 28]) (by decide))
        have f1 := Fq.of h01 (by decide)
        have w1 := h.fr f1
        obtain ⟨hB1, hS1⟩ := w1.le
        have hs2 : f_sinceB I1 (nI (10 * x.1 + x.2)) (nI p.2) = nI (thx I0 x p.2) := by
          unfold f_sinceB
          rw [bs_div hb10 hs10, show f_get I1 (nI x.1) 0 = I1 7 x.1 from get_b w1 hb (w := 0) (by omega), f1.1 7 (by decide) (by decide)]
          exact th_eq hbl hb10 c3
        have e28 : I1 28 (nI P.length).toNatClampNeg = nI p.2 := by rw [nI_clamp (by omega), h1 28 (by decide)]; exact c2
        have nxt := ih (xu I1 28 P.length (nI (thx I0 x p.2))) (xu J 27 P.length (lN (p.1 * (12 - c)))) (some (.int (nI c))) (h01.up (by decide)) (hJ.up (by decide)) (by
          have : CS (J 27) (I1 28) (P.map (gq (crx I0 ls x) (thx I0 x)) ++ p :: S) := by rw [h1 28 (by decide)]; exact hC
          have := this.set (w := p.1 * (12 - c)) (th := thx I0 x p.2) hth
          rw [List.length_map] at this
          unfold gq at this ⊢
          rw [hc]
          exact this)
        refine iX0_step_125 (iX0_step_126 (iX0_step_129 (iX0_step_131 (iX0_step_132 (iX0_step_135 (iX0_step_136 (iX0_step_139 (iX0_step_140 (vp_in_nI (by omega) (by omega)) ?_))))))))
        rw [e26 I1 h01]
        refine iX0_step_141 (iX0_step_142 (iX0_step_145 (iX0_step_147 (vp_in_nI (by omega) (by omega)) ?_)))
        rw [e28]
        refine iX0_step_148 (s_X5_sinceBehind _ _ hB1 hS1) ?_
        rw [hs2]
        refine iX0_step_151 (vp_in_nI (by omega) (by omega)) (iX0_step_152 (iX0_step_155 ?_))
        rw [nI_clamp (by omega), ei]
        exact nxt
      refine iX0_step_22 (iX0_step_24 (iX0_step_25 (fun h25 => absurd h25 (f25)) (fun h25 => ?_)))
      refine iX0_step_28 (iX0_step_29 (iX0_step_32 (iX0_step_34 (vp_in_nI (by omega) (by omega)) ?_)))
      rw [nI_clamp (by omega), c1]
      refine iX0_step_35 (iX0_step_36 (iX0_step_37 (fun h37 => ?_) (fun h37 => by first | exact absurd (n37) h37 | exact absurd h37 (n37))))
      refine iX0_step_43 (iX0_step_44 (iX0_step_47 (iX0_step_48 (iX0_step_51 (iX0_step_52 (vp_in_nI (by omega) (by omega)) ?_)))))
      rw [e26 I hI]
      refine iX0_step_53 (iX0_step_54 (iX0_step_57 (iX0_step_59 (s_X5_its 6 hB hS) (iX0_step_62 (iX0_step_63 (iX0_step_66 (iX0_step_68 (s_X5_its 7 hB hS) (iX0_step_71 (iX0_step_72 (iX0_step_75 (iX0_step_77 (vp_in_nI (by omega) (by omega)) ?_)))))))))))
      rw [e6, e7, nI_clamp (by omega), c2]
      refine jX0_step_78 sp (fun r78 g78 I78 J78 hq => ?_)
      obtain ⟨rfl, rfl, hq3, rfl⟩ := hq
      refine iX0_step_81 (iX0_step_83 (iX0_step_85 (iX0_step_86 (iX0_step_89 (iX0_step_91 (vp_in_nI (by omega) (by omega)) ?_)))))
      rw [nI_clamp (by omega), c1]
      refine iX0_step_92 (iX0_step_94 ?_)
      rw [elc]
      refine iX0_step_95 ?_
      rw [lN_mul]
      refine iX0_step_96 ?_
      rw [lN_add]
      refine iX0_step_97 (iX0_step_99 (iX0_step_100 (iX0_step_103 (iX0_step_105 (iX0_step_106 (vp_in_nI (by omega) (by omega)) ?_)))))
      rw [nI_clamp (by omega), c1]
      refine iX0_step_107 (iX0_step_109 (iX0_step_111 (iX0_step_112 ?_)))
      rw [elm]
      refine iX0_step_113 ?_
      rw [lN_mul]
      refine iX0_step_114 (vp_in_nI (by omega) (by omega)) ?_
      rw [nI_clamp (by omega)]
      refine iX0_step_115 (iX0_step_116 (iX0_step_117 (iX0_step_120 (iX0_step_122 (vp_in_nI (by omega) (by omega)) ?_))))
      rw [nI_clamp (by omega), xu_eq]
      refine iX0_step_123 ?_
      rw [lN_add]
      refine iX0_step_124 ?_
      exact key _ hq3
theorem s_X0_step (h : Wd I0 nB nS ls) (hA : agOk nB nS A) (hAg : AgC I0 A) {j : Nat} {x : Nat × Nat} (hx : A[j]? = some x) {cl : List (Nat × Nat)} (hl : cl.length = j + 1) (ht : lsum cl (fun _ => 1) ≤ 12 ^ j) (go : Bool) (hC : CS (J0 27) (I0 28) cl) : Spec 15 (1000000, 0, 0) M_X0_step [.ref 25, .int (nI j), .int (bI go)] xG1 I0 J0 (fun r g i jj => r = some (.long (lN (psd (crx I0 ls x) cl))) ∧ g = xG1 ∧ xFr [4, 5, 28] I0 i ∧ xFJ [27] J0 jj ∧ CS (jj 27) (i 28) (stL (crx I0 ls x) (thx I0 x) go cl)) := by
  have hj := (List.getElem?_eq_some_iff.mp hx).1
  have hA1 := hA.1
  refine spec_of (L := [some (.ref 25), some (.int (nI j)), some (.int (bI go)), none, none, none, none, none, none]) (by decide) (Nat.le_of_ble_eq_true rfl) rfl ?_
  have n1 : ¬ nI j < 0 := nI_pos (by omega)
  have n9 : nI j < I0 25 4 := by rw [hAg.1]; exact nI_lt hj (by omega)
  refine iX0_step_0 (iX0_step_1 (fun h1 => absurd h1 (n1)) (fun h1 => ?_))
  refine iX0_step_4 (iX0_step_5 (iX0_step_6 (iX0_step_9 (fun h9 => ?_) (fun h9 => by first | exact absurd (n9) h9 | exact absurd h9 (n9)))))
  refine iX0_step_14 (iX0_step_15 (iX0_step_16 (iX0_step_17 (iX0_step_19 (iX0_step_20 ?_)))))
  exact c_step h hA hAg hx hl ht go cl [] rfl I0 J0 _ xFr.rf xFJ.rf hC
theorem s_X0_begin (h : Wd I0 nB nS ls) {si : Nat} (hs : si ≤ 95) (e15 : I0 15 0 = nI si) : Spec 4 (1000000, 0, 0) M_X0_begin [.ref 25] xG1 I0 J0 (fun r g i jj => r = none ∧ g = xG1 ∧ xFr [4, 5, 28] I0 i ∧ xFJ [27] J0 jj ∧ CS (jj 27) (i 28) [(1, si)]) := by
  obtain ⟨hB, hS⟩ := h.le
  have e8 : f_get I0 0 8 = nI si := (f_get_its 8 (by omega) (by omega)).trans e15
  refine spec_of (L := [some (.ref 25)]) (by decide) (Nat.le_of_ble_eq_true rfl) rfl ?_
  refine iX0_begin_0 (iX0_begin_1 (iX0_begin_4 (iX0_begin_5 (s_fill 27 11 0 (by decide +kernel) (by omega)) (iX0_begin_8 (iX0_begin_9 (iX0_begin_12 (iX0_begin_13 (iX0_begin_14 (vin 11 (by decide) (by decide) (by decide)) (iX0_begin_15 (iX0_begin_16 (iX0_begin_19 (iX0_begin_20 (iX0_begin_21 (iX0_begin_24 (iX0_begin_26 (s_X5_its 8 hB hS) ?_)))))))))))))))
  rw [e8]
  refine iX0_begin_29 (vin 11 (by decide) (by decide) (by decide)) (iX0_begin_30 ?_)
  refine ⟨rfl, rfl, xFr.rf.up (by decide), fun a ha => ?_, fun c p hp => ?_, fun c hc h11 => ?_, fun p hp => ?_⟩
  · have ha27 : ¬ a = 27 := fun z => ha (by rw [z]; decide)
    rw [xu_rowf ha27, xf_row ha27]
  · match c, hp with
    | 0, hp =>
      cases hp
      exact ⟨xu_eq, fun _ => xu_eq⟩
  · simp at hc
    rw [xu_col (show ¬ c = (0 : Int32).toNatClampNeg from fun z => by rw [show (0 : Int32).toNatClampNeg = 0 by decide] at z; omega), xf_in h11]
  · simp at hp
    rw [hp]
    exact hs
end
