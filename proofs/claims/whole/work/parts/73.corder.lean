/-! ===== the class's best order ===== -/
section
variable {I0 : xI} {J0 : xJ} {nB nS : Nat} {ls : lwT} {si : Nat}
theorem oval_le (h : Wd I0 nB nS ls) (hs : si ≤ 95) {P : List Nat} (hl : P.length ≤ 5) (h10 : ∀ b ∈ P, b < 10) {s : Nat} : oval I0 ls s si P ≤ 990 * 12 ^ 10 := by
  unfold oval
  have hw := woR_le (I := I0) (ls := ls) (A := P.map (fun b => (b, s))) hs (fun i hi => by
    have z : (aGet (P.map (fun b => (b, s))) i).1 < 10 := by
      unfold aGet
      rw [List.getD, List.getElem?_map]
      cases e : P[i]? with
      | none => exact (by decide : 0 < 10)
      | some b => exact h10 b (List.mem_of_getElem? e)
    exact (fB_b h.2.2.2.2.2.2.1 z).2.2.2.1) P.length (by omega)
  exact Nat.le_trans hw (Nat.mul_le_mul (by omega) (Nat.pow_le_pow_right (by omega) (by omega)))
theorem oFold_v {v : List Nat → Nat} : ∀ (Ps : List (List Nat)) (o : oT) (w : Nat) (b : List Nat), (∀ w b, o = some (w, b) → w = v b) → oFold v Ps o = some (w, b) → w = v b ∧ ((∃ o', o = some o') ∨ b ∈ Ps) ∧ (b ∈ Ps ∨ o = some (w, b))
  | [], o, w, b, ho, h => ⟨ho w b h, Or.inl ⟨_, h⟩, Or.inr h⟩
  | P :: Ps, o, w, b, ho, h => by
    have hU : ∀ w b, oU v o P = some (w, b) → w = v b ∧ (b = P ∨ o = some (w, b)) := fun w b e => by
      match o, ho, e with
      | none, _, e => cases e; exact ⟨rfl, Or.inl rfl⟩
      | some (m, c), ho, e =>
        simp only [oU] at e
        by_cases q : m < v P
        · rw [if_pos q] at e; cases e; exact ⟨rfl, Or.inl rfl⟩
        · rw [if_neg q] at e; cases e; exact ⟨ho _ _ rfl, Or.inr rfl⟩
    obtain ⟨h1, h2, h3⟩ := oFold_v Ps (oU v o P) w b (fun w b e => (hU w b e).1) h
    refine ⟨h1, ?_, ?_⟩
    · rcases h3 with h3 | h3
      · exact Or.inr (List.mem_cons_of_mem _ h3)
      · rcases (hU w b h3).2 with e | e
        · exact Or.inr (by rw [e]; exact List.mem_cons_self)
        · exact Or.inl ⟨_, e⟩
    · rcases h3 with h3 | h3
      · exact Or.inl (List.mem_cons_of_mem _ h3)
      · rcases (hU w b h3).2 with e | e
        · exact Or.inl (by rw [e]; exact List.mem_cons_self)
        · exact Or.inr e
theorem oFold_take {v : List Nat → Nat} {Ps : List (List Nat)} {t : Nat} {P : List Nat} (h : Ps[t]? = some P) : oFold v (Ps.take (t + 1)) none = oU v (oFold v (Ps.take t) none) P := by
  unfold oFold
  rw [List.take_succ, h, List.foldl_append]
  rfl
abbrev skQ (I0 : xI) (J0 : xJ) (m : Nat) (o : oT) : xP := fun r g i j => r = none ∧ g = xG1 ∧ xFr SkS I0 i ∧ xFJ [27, 29] J0 j ∧ i 29 4 = nI m ∧ BsC i j o
theorem c_sloop (h : Wd I0 nB nS ls) (hs95 : si ≤ 95) (e15 : I0 15 0 = nI si) {x s : Nat} (hx : x < 2 ^ nB) (hs : s < nS) {m : Nat} (hm : (bls x).length = m) (hm5 : m ≤ 5) : ∀ (n t : Nat), t + n = (PL m).length → 0 < n → ∀ (I : xI) (J : xJ), xFr SkS I0 I → xFJ [27, 29] J0 J → I 29 4 = nI m → rowL (I 30) (((PL m).getD t []).map (gL (bls x))) → BsC I J (oFold (oval I0 ls s si) (((PL m).map (fun q => q.map (gL (bls x)))).take t) none) → ∀ (a5 a6 : Option Value), WP 30 (1000000, 0, 0) none M_X8_seek (skQ I0 J0 m (oFold (oval I0 ls s si) ((PL m).map (fun q => q.map (gL (bls x)))) none)) 17 [some (.ref 29), some (.int (nI x)), some (.int (nI s)), some (.int 1), some (.int (nI t)), a5, a6] [] xG1 I J := by
  have hB : monB m (gL (bls x)) := by rw [← hm]; exact bls_mon
  obtain ⟨f1, f2, f3⟩ := PL_facts hm5
  have hx10 := h.2.1
  have hnS := h.2.2.2.1
  have hrl : (List.range m).length = m := List.length_range
  intro n
  induction n with
  | zero => intro t _ h0; omega
  | succ n ih =>
    intro t ht _ I J hI hJ h4 h30 hBs a5 a6
    have htl : t < (PL m).length := by omega
    have hp : (PL m)[t]? = some ((PL m).getD t []) := by rw [List.getD, List.getElem?_eq_getElem htl]; rfl
    have hpm := prm_len m (List.range m) (by rw [hrl]; exact Nat.le_refl _) List.nodup_range _ (List.mem_of_getElem? hp)
    have f3 := f3 t htl
    generalize (PL m).getD t [] = p at *
    rw [hrl] at hpm
    obtain ⟨pl, pm⟩ := hpm
    have hP : (p.map (gL (bls x))).length = m := by rw [List.length_map]; exact pl
    have hPs : ((PL m).map (fun q => q.map (gL (bls x))))[t]? = some (p.map (gL (bls x))) := by rw [List.getElem?_map, hp]; rfl
    have hfold := oFold_take (v := oval I0 ls s si) hPs
    have hmem : ∀ b ∈ p.map (gL (bls x)), b < nB := fun b hb => by
      obtain ⟨i, hi, rfl⟩ := List.mem_map.mp hb
      have := List.mem_range.mp (pm i hi)
      exact bls_lt hx (List.mem_of_getElem? (gL_get (by omega)))
    have hgp : ∀ k, k < m → gL p k < m := fun k hk => List.mem_range.mp (pm _ (List.mem_of_getElem? (gL_get (by omega))))
    have hrowF : ∀ I' : xI, I' 30 = I 30 → rowF m (gL (bls x)) I' (gL p) := fun I' e k hk => by
      rw [e]
      refine h30 k _ ?_
      rw [List.getElem?_map, gL_get (by omega)]
      rfl
    generalize hPe : p.map (gL (bls x)) = P at *
    generalize hoe : oFold (oval I0 ls s si) (((PL m).map (fun q => q.map (gL (bls x)))).take t) none = o at *
    have hv := oval_le h hs95 (P := P) (by omega) (fun b hb => by have := hmem b hb; omega) (s := s)
    have ho : ∀ w b, o = some (w, b) → w < 2 ^ 63 := fun w b e => by
      rw [← hoe] at e
      obtain ⟨g1, -, g3⟩ := oFold_v _ _ w b (fun w b e => by cases e) e
      rcases g3 with g3 | g3
      · obtain ⟨q, hq, rfl⟩ := List.mem_map.mp (List.mem_of_mem_take g3)
        have hq2 := prm_len m (List.range m) (by rw [hrl]; exact Nat.le_refl _) List.nodup_range _ hq
        rw [hrl] at hq2
        have := oval_le h hs95 (P := q.map (gL (bls x))) (by rw [List.length_map]; omega) (fun b hb => by
          obtain ⟨i, hi, rfl⟩ := List.mem_map.mp hb
          exact hB.2 i (List.mem_range.mp (hq2.2 i hi))) (s := s)
        omega
      · cases g3
    have ei : nI t + (1) = nI (t + 1) := nI_1 _
    -- behind the comparison
    have tail : ∀ (I2 : xI) (J2 : xJ), xFr SkS I0 I2 → xFJ [27, 29] J0 J2 → I2 29 4 = nI m → I2 30 = I 30 → BsC I2 J2 (oU (oval I0 ls s si) o P) → ∀ a5 a6, WP 30 (1000000, 0, 0) none M_X8_seek (skQ I0 J0 m (oFold (oval I0 ls s si) ((PL m).map (fun q => q.map (gL (bls x)))) none)) 113 [some (.ref 29), some (.int (nI x)), some (.int (nI s)), some (.int 1), some (.int (nI t)), a5, a6] [] xG1 I2 J2 := by
      intro I2 J2 hI2 hJ2 h42 h302 hB2 a5 a6
      have sg := s_X8_goOn (I0 := I2) (J0 := J2) hm5 h42 hB (l := p) hgp (hrowF I2 h302)
      unfold goR at sg
      rw [f3] at sg
      by_cases hn : n = 0
      · have e : (PL m)[t + 1]? = none := List.getElem?_eq_none (by omega)
        have eAll : (((PL m).map (fun q => q.map (gL (bls x)))).take (t + 1)) = (PL m).map (fun q => q.map (gL (bls x))) := List.take_of_length_le (by rw [List.length_map]; omega)
        rw [eAll] at hfold
        rw [e] at sg
        rw [hfold]
        refine iX8_seek_113 (jX8_seek_114 sg (fun r114 g114 I114 J114 hq => ?_))
        obtain ⟨rfl, rfl, rfl, rfl⟩ := hq
        refine iX8_seek_117 (iX8_seek_118 (iX8_seek_121 ?_))
        rw [ei]
        by_cases z : t + 1 < 120
        · refine iX8_seek_17 (iX8_seek_19 (iX8_seek_21 (fun h21 => absurd h21 (nI_ge (b := 120) z (by omega))) (fun h21 => iX8_seek_24 (iX8_seek_25 (fun h25 => iX8_seek_124 ?_) (fun h25 => absurd rfl h25)))))
          exact ⟨rfl, rfl, hI2, hJ2, h42, hB2⟩
        · refine iX8_seek_17 (iX8_seek_19 (iX8_seek_21 (fun h21 => iX8_seek_124 ?_) (fun h21 => absurd (nI_le (a := 120) (b := t + 1) (by omega) (by omega)) h21)))
          exact ⟨rfl, rfl, hI2, hJ2, h42, hB2⟩
      · have htl2 : t + 1 < (PL m).length := by omega
        have e : (PL m)[t + 1]? = some ((PL m).getD (t + 1) []) := by rw [List.getD, List.getElem?_eq_getElem htl2]; rfl
        rw [e] at sg
        refine iX8_seek_113 (jX8_seek_114 sg (fun r114 g114 I114 J114 hq => ?_))
        obtain ⟨rfl, rfl, rfl, hq3, hq4⟩ := hq
        refine iX8_seek_117 (iX8_seek_118 (iX8_seek_121 ?_))
        rw [ei]
        have hpm2 := prm_len m (List.range m) (by rw [hrl]; exact Nat.le_refl _) List.nodup_range _ (List.mem_of_getElem? e)
        rw [hrl] at hpm2
        refine ih (t + 1) (by omega) (by omega) _ _ (hI2.tr (hq3.mono (by decide))) hJ2 (by rw [hq3 29 (by decide)]; exact h42) (fun k b hk => ?_) ⟨hB2.1.trans (by rw [hfold]), fun v b e => by rw [hq3 31 (by decide)]; rw [hfold] at e; exact hB2.2 v b e⟩ _ _
        have hkl := (List.getElem?_eq_some_iff.mp hk).1
        rw [List.length_map] at hkl
        rw [List.getElem?_map, gL_get hkl] at hk
        cases hk
        exact hq4 k (by omega)
    -- at the worth
    have atw : ∀ (I2 : xI), xFr [25, 26] I I2 → (m ≠ 0 → AgC I2 (bsl P s)) → ∀ a6, WP 30 (1000000, 0, 0) none M_X8_seek (skQ I0 J0 m (oFold (oval I0 ls s si) ((PL m).map (fun q => q.map (gL (bls x)))) none)) 67 [some (.ref 29), some (.int (nI x)), some (.int (nI s)), some (.int 1), some (.int (nI t)), some (.int (nI m)), a6] [] xG1 I2 J := by
      intro I2 hI2 hAg a6
      have h2 := hI.tr (hI2.mono (T := SkS) (by decide))
      have fq := Fq.of h2 (by decide)
      have w2 := h.fr fq
      have e152 : I2 15 0 = nI si := by rw [h2 15 (by decide)]; exact e15
      have h42 : I2 29 4 = nI m := by rw [hI2 29 (by decide)]; exact h4
      have sw : Spec 20 (1000000, 0, 0) M_X0_worthOf [.ref 25, .int (nI m)] xG1 I2 J (fun r g i j => r = some (.long (lN (oval I0 ls s si P))) ∧ g = xG1 ∧ xFr [4, 5, 28] I2 i ∧ xFJ [27] J j) := by
        by_cases z : m = 0
        · have eP : P = [] := List.eq_nil_of_length_eq_zero (by omega)
          rw [z, eP]
          exact s_worth0 w2 hs95 e152
        · have hA : agOk nB nS (bsl P s) := ⟨by rw [List.length_map]; omega, fun y hy => by
            obtain ⟨b, hb, rfl⟩ := List.mem_map.mp hy
            exact ⟨hmem b hb, hs⟩⟩
          have := s_X0_worthOf (J0 := J) w2 hA (hAg z) hs95 e152 (n := m) (by rw [List.length_map]; omega)
          rw [woR_fr fq] at this
          unfold oval
          rw [hP]
          exact this
      have q87 := oE_lt (o := o) (v := oval I0 ls s si P) (by omega) ho
      have hcc : (0 : Int32).toNatClampNeg + (nI m).toNatClampNeg ≤ 5 := by rw [nI_clamp (by omega), show (0 : Int32).toNatClampNeg = 0 by decide]; omega
      by_cases q : ∃ w b, o = some (w, b) ∧ ¬ w < oval I0 ls s si P
      · obtain ⟨w, b, eo, nw⟩ := id q
        have eU : oU (oval I0 ls s si) o P = o := by rw [eo]; simp only [oU]; rw [if_neg nw]
        refine iX8_seek_67 (iX8_seek_68 (iX8_seek_71 (iX8_seek_72 ?_)))
        rw [h42]
        refine jX8_seek_75 sw (fun r75 g75 I75 J75 hq => ?_)
        obtain ⟨rfl, rfl, hq3, hq4⟩ := hq
        refine iX8_seek_78 (iX8_seek_80 (iX8_seek_82 (iX8_seek_83 ?_)))
        rw [hq4 29 (by decide), hBs.1]
        refine iX8_seek_86 (iX8_seek_87 (fun h87 => ?_) (fun h87 => by first | exact absurd (q87.mpr q) h87 | exact absurd h87 (q87.mpr q)))
        exact tail _ _ (h2.tr (hq3.mono (by decide))) (hJ.tr (fun a ha => hq4 a (fun z => ha (by simp at z; rw [z]; decide)))) (by rw [hq3 29 (by decide)]; exact h42) (by rw [hq3 30 (by decide), hI2 30 (by decide)]) (by rw [eU]; exact ⟨by rw [hq4 29 (by decide)]; exact hBs.1, fun v b e => by rw [hq3 31 (by decide), hI2 31 (by decide)]; exact hBs.2 v b e⟩) _ _
      · have eU : oU (oval I0 ls s si) o P = some (oval I0 ls s si P, P) := by
          match o, q with
          | none, _ => rfl
          | some (w, b), q =>
            simp only [oU]
            by_cases z : w < oval I0 ls s si P
            · rw [if_pos z]
            · exact absurd ⟨w, b, rfl, z⟩ q
        refine iX8_seek_67 (iX8_seek_68 (iX8_seek_71 (iX8_seek_72 ?_)))
        rw [h42]
        refine jX8_seek_75 sw (fun r75 g75 I75 J75 hq => ?_)
        obtain ⟨rfl, rfl, hq3, hq4⟩ := hq
        refine iX8_seek_78 (iX8_seek_80 (iX8_seek_82 (iX8_seek_83 ?_)))
        rw [hq4 29 (by decide), hBs.1]
        refine iX8_seek_86 (iX8_seek_87 (fun h87 => absurd h87 (fun z => q (q87.mp z))) (fun h87 => ?_))
        refine iX8_seek_90 (iX8_seek_91 (iX8_seek_93 (iX8_seek_96 (iX8_seek_97 (iX8_seek_100 (iX8_seek_101 (iX8_seek_102 (iX8_seek_105 (iX8_seek_106 (iX8_seek_107 ?_))))))))))
        rw [show I75 29 4 = nI m by rw [hq3 29 (by decide)]; exact h42]
        refine iX8_seek_110 (by decide) (by decide) (nI_pos (by omega)) hcc hcc ?_
        rw [nI_clamp (by omega), show (0 : Int32).toNatClampNeg = 0 by decide]
        have hx31 : xFr [31] I75 (xcp I75 30 31 0 0 m) := fun a ha => xcp_row (fun z => ha (by rw [z]; decide))
        refine tail _ _ ((h2.tr (hq3.mono (by decide))).tr (hx31.mono (by decide))) ((hJ.tr (fun a ha => hq4 a (fun z => ha (by simp at z; rw [z]; decide)))).up (by decide)) (by rw [hx31 29 (by decide), hq3 29 (by decide)]; exact h42) (by rw [hx31 30 (by decide), hq3 30 (by decide), hI2 30 (by decide)]) ?_ _ _
        rw [eU]
        refine ⟨xu_eq, fun v b e => ?_⟩
        cases e
        intro k b hk
        have hkl := (List.getElem?_eq_some_iff.mp hk).1
        have : xcp I75 30 31 0 0 m 31 k = I75 30 k := by
          unfold xcp
          rw [if_pos rfl, if_pos ⟨by omega, by omega⟩, Nat.zero_add, Nat.sub_zero]
        rw [this, hq3 30 (by decide), hI2 30 (by decide)]
        exact h30 k b hk
    have t120 : ¬ (120 : Int32) ≤ nI t := nI_ge (b := 120) (a := t) (by omega) (by omega)
    refine iX8_seek_17 (iX8_seek_19 (iX8_seek_21 (fun h21 => absurd h21 (t120)) (fun h21 => ?_)))
    refine iX8_seek_24 (iX8_seek_25 (fun h25 => absurd h25 ((by decide : ¬ (1 : Int32) = 0))) (fun h25 => ?_))
    refine iX8_seek_28 (iX8_seek_29 ?_)
    exact c_tell (I0 := I) (m := m) (P := P) rfl hP hm5 (fun b hb => by have := hmem b hb; omega) h4 h30 atw m 0 (by omega) I xFr.rf (fun z => absurd rfl z) (fun k x hk => by simp at hk) _
theorem s_X8_seek (h : Wd I0 nB nS ls) (hs95 : si ≤ 95) (e15 : I0 15 0 = nI si) {x s : Nat} (hx : x < 2 ^ nB) (hs : s < nS) (h5 : pcn x ≤ 5) : Spec 30 (1000000, 0, 0) M_X8_seek [.ref 29, .int (nI x), .int (nI s)] xG1 I0 J0 (skQ I0 J0 (pcn x) (oFold (oval I0 ls s si) (prm (pcn x) (bls x)) none)) := by
  have hx1024 : x < 1024 := by
    have := (shl_n h.2.1).2.1
    omega
  have hm := bls_len hx1024
  have eP : prm (pcn x) (bls x) = (PL (pcn x)).map (fun q => q.map (gL (bls x))) := by
    have e : bls x = (List.range (pcn x)).map (gL (bls x)) := by
      refine List.ext_getElem? (fun k => ?_)
      rw [List.getElem?_map]
      by_cases z : k < pcn x
      · rw [List.getElem?_range z, gL_get (by omega)]
        rfl
      · rw [List.getElem?_eq_none (by omega), List.getElem?_eq_none (by rw [List.length_range]; omega)]
        rfl
    have hmon := bls_mon (x := x)
    rw [hm] at hmon
    have := prm_map (B := gL (bls x)) (pcn x) (List.range (pcn x)) (fun a ha b hb e => by
      have ha := List.mem_range.mp ha
      have hb := List.mem_range.mp hb
      by_cases z : a < b
      · have := hmon.1 a b z hb; omega
      · by_cases z2 : b < a
        · have := hmon.1 b a z2 ha; omega
        · omega)
    rw [← e] at this
    exact this
  obtain ⟨f1, f2, f3⟩ := PL_facts h5
  rw [eP]
  refine spec_of (L := [some (.ref 29), some (.int (nI x)), some (.int (nI s)), none, none, none, none]) (by decide) (Nat.le_of_ble_eq_true rfl) rfl ?_
  have hlen : 0 < (PL (pcn x)).length := (List.getElem?_eq_some_iff.mp f2).1
  have e0 : (PL (pcn x)).getD 0 [] = List.range (pcn x) := by rw [List.getD, f2]; rfl
  have eB : (List.range (pcn x)).map (gL (bls x)) = bls x := by
    refine List.ext_getElem? (fun k => ?_)
    rw [List.getElem?_map]
    by_cases z : k < pcn x
    · rw [List.getElem?_range z, gL_get (by omega)]
      rfl
    · rw [List.getElem?_eq_none (by rw [List.length_range]; omega), List.getElem?_eq_none (by omega)]
      rfl
  refine iX8_seek_0 (iX8_seek_1 (jX8_seek_2 (s_X8_first hx1024 (by omega)) (fun r2 g2 I2 J2 hq => ?_)))
  obtain ⟨rfl, rfl, hq3, rfl, hq4, hq5⟩ := hq
  refine iX8_seek_5 (iX8_seek_6 (iX8_seek_9 (iX8_seek_12 (iX8_seek_13 (iX8_seek_14 (iX8_seek_15 ?_))))))
  exact c_sloop h hs95 e15 hx hs hm h5 (PL (pcn x)).length 0 (by omega) hlen _ _ (hq3.mono (by decide)) (xFJ.rf.up (by decide)) (by rw [hq4, hm]) (by rw [e0, eB]; exact hq5) ⟨xu_eq, fun v b e => by cases e⟩ _ _
end
