/-! ===== the class seeks the best order ===== -/
def rowL (r : Nat → Int32) (P : List Nat) : Prop := ∀ (k : Nat) (b : Nat), P[k]? = some b → r k = nI b
theorem rowL_up {I : xI} {a : Nat} {P : List Nat} {b : Nat} (h : rowL (I a) P) : rowL (xu I a P.length (nI b) a) (P ++ [b]) := by
  intro k y hk
  by_cases q : k = P.length
  · subst q
    rw [List.getElem?_append_right (Nat.le_refl _), Nat.sub_self] at hk
    cases hk
    exact xu_eq
  · have hl := (List.getElem?_eq_some_iff.mp hk).1
    simp only [List.length_append, List.length_cons, List.length_nil] at hl
    rw [List.getElem?_append_left (by omega)] at hk
    rw [xu_col q]
    exact h k y hk
theorem gL_get {l : List Nat} {k : Nat} (h : k < l.length) : l[k]? = some (gL l k) := by
  unfold gL
  rw [List.getD, List.getElem?_eq_getElem h]
  rfl
theorem bls_mon {x : Nat} : monB (bls x).length (gL (bls x)) := by
  have hp : (bls x).Pairwise (· < ·) := List.pairwise_lt_range.filter _
  refine ⟨fun a b hab hb => ?_, fun a ha => ?_⟩
  · have := List.pairwise_iff_getElem.mp hp a b (by omega) hb hab
    have e1 := gL_get (l := bls x) (k := a) (by omega)
    have e2 := gL_get (l := bls x) (k := b) hb
    rw [List.getElem?_eq_getElem (by omega)] at e1
    rw [List.getElem?_eq_getElem hb] at e2
    rw [← Option.some.inj e1, ← Option.some.inj e2]
    exact this
  · exact (bls_mem.mp (List.mem_of_getElem? (gL_get ha))).1
section
variable {I0 : xI} {J0 : xJ} {nB nS : Nat} {ls : lwT}
theorem c_first {x : Nat} (hx : x < 1024) (h5 : (bls x).length ≤ 5) : ∀ (m b : Nat) (P : List Nat), b + m = 10 → bls x = P ++ (List.range' b m).filter (fun b => decide (bit x b = 1)) → ∀ (I : xI), xFr [29, 30] I0 I → I 29 4 = nI P.length → rowL (I 30) P → WP 5 (1000000, 0, 0) none M_X8_first (fun r g i j => r = none ∧ g = xG1 ∧ xFr [29, 30] I0 i ∧ j = J0 ∧ i 29 4 = nI (bls x).length ∧ rowL (i 30) (bls x)) 7 [some (.ref 29), some (.int (nI x)), some (.int (nI b))] [] xG1 I J0 := by
  intro m
  induction m with
  | zero =>
    intro b P hb hP I hI h4 hr
    obtain rfl : b = 10 := by omega
    have e : bls x = P := by rw [hP]; simp
    refine iX8_first_7 (iX8_first_8 (iX8_first_10 (fun h10 => ?_) (fun h10 => by first | exact absurd (Int32.le_refl _) h10 | exact absurd h10 (Int32.le_refl _))))
    refine iX8_first_53 ?_
    exact ⟨rfl, rfl, hI, rfl, by rw [e]; exact h4, by rw [e]; exact hr⟩
  | succ m ih =>
    intro b P hb hP I hI h4 hr
    have ei : nI b + (1) = nI (b + 1) := nI_1 _
    have f10 : ¬ (10 : Int32) ≤ nI b := nI_ge (b := 10) (a := b) (by omega) (by omega)
    have hl : P.length ≤ 5 := by
      have := congrArg List.length hP
      rw [List.length_append] at this
      omega
    by_cases q5 : P.length = 5
    · have e : bls x = P := by
        have h1 := congrArg List.length hP
        rw [List.length_append] at h1
        have h2 := List.eq_nil_of_length_eq_zero (show ((List.range' b (m + 1)).filter (fun b => decide (bit x b = 1))).length = 0 by omega)
        rw [h2, List.append_nil] at hP
        exact hP
      refine iX8_first_7 (iX8_first_8 (iX8_first_10 (fun h10 => absurd h10 (f10)) (fun h10 => ?_)))
      refine iX8_first_13 (iX8_first_14 ?_)
      rw [h4, q5]
      refine iX8_first_17 (iX8_first_18 (fun h18 => ?_) (fun h18 => by first | exact absurd (Int32.le_refl _) h18 | exact absurd h18 (Int32.le_refl _)))
      refine iX8_first_53 ?_
      exact ⟨rfl, rfl, hI, rfl, by rw [e]; exact h4, by rw [e]; exact hr⟩
    · have f18 : ¬ (5 : Int32) ≤ nI P.length := nI_ge (b := 5) (by omega) (by omega)
      have hbk := bit_01 x b
      have q27 : nI (bit x b) = 1 ↔ bit x b = 1 := nI_eq (b := 1) (by omega) (by omega)
      rw [List.range'_succ] at hP
      by_cases q : bit x b = 1
      · rw [List.filter_cons_of_pos (by rw [decide_eq_true q]), List.append_cons] at hP
        have eP : nI P.length + 1 = nI (P.length + 1) := nI_1 _
        refine iX8_first_7 (iX8_first_8 (iX8_first_10 (fun h10 => absurd h10 (f10)) (fun h10 => ?_)))
        refine iX8_first_13 (iX8_first_14 ?_)
        rw [h4]
        refine iX8_first_17 (iX8_first_18 (fun h18 => absurd h18 (f18)) (fun h18 => ?_))
        refine iX8_first_21 (iX8_first_22 (iX8_first_23 (iX8_first_24 (iX8_first_25 (iX8_first_26 ?_)))))
        rw [bit_shift hx (by omega)]
        refine iX8_first_27 (fun h27 => absurd h27 (fun z => z (q27.mpr q))) (fun h27 => ?_)
        refine iX8_first_30 (iX8_first_31 (iX8_first_34 (iX8_first_35 (iX8_first_36 ?_))))
        rw [h4]
        refine iX8_first_39 (iX8_first_40 (iX8_first_41 ?_))
        rw [eP]
        refine iX8_first_42 (iX8_first_45 (iX8_first_46 (vp_in_nI (by omega) (by omega)) (iX8_first_47 (iX8_first_50 ?_))))
        rw [nI_clamp (by omega), ei]
        refine ih (b + 1) (P ++ [b]) (by omega) hP _ ((hI.up (by decide)).up (by decide)) (by rw [xu_row (by decide), xu_eq]; simp) ?_
        have := rowL_up (I := xu I 29 4 (nI (P.length + 1))) (a := 30) (P := P) (b := b) (by rw [xu_rowf (by decide)]; exact hr)
        exact this
      · rw [List.filter_cons_of_neg (by rw [decide_eq_true_eq]; exact q)] at hP
        refine iX8_first_7 (iX8_first_8 (iX8_first_10 (fun h10 => absurd h10 (f10)) (fun h10 => ?_)))
        refine iX8_first_13 (iX8_first_14 ?_)
        rw [h4]
        refine iX8_first_17 (iX8_first_18 (fun h18 => absurd h18 (f18)) (fun h18 => ?_))
        refine iX8_first_21 (iX8_first_22 (iX8_first_23 (iX8_first_24 (iX8_first_25 (iX8_first_26 ?_)))))
        rw [bit_shift hx (by omega)]
        refine iX8_first_27 (fun h27 => ?_) (fun h27 => by first | exact absurd (fun z => q (q27.mp z)) h27 | exact absurd h27 (fun z => q (q27.mp z)))
        refine iX8_first_47 (iX8_first_50 ?_)
        rw [ei]
        exact ih (b + 1) P (by omega) hP I hI h4 hr
theorem s_X8_first {x : Nat} (hx : x < 1024) (h5 : (bls x).length ≤ 5) : Spec 5 (1000000, 0, 0) M_X8_first [.ref 29, .int (nI x)] xG1 I0 J0 (fun r g i j => r = none ∧ g = xG1 ∧ xFr [29, 30] I0 i ∧ j = J0 ∧ i 29 4 = nI (bls x).length ∧ rowL (i 30) (bls x)) := by
  refine spec_of (L := [some (.ref 29), some (.int (nI x)), none]) (by decide) (Nat.le_of_ble_eq_true rfl) rfl ?_
  have := c_first (I0 := I0) (J0 := J0) hx h5 10 0 [] (by omega) (by unfold bls; rw [List.range_eq_range']; rfl) (xu I0 29 4 0) (xFr.rf.up (by decide)) xu_eq (fun k b hk => by simp at hk)
  exact iX8_first_0 (iX8_first_1 (iX8_first_2 (iX8_first_5 (iX8_first_6 this))))
theorem s_X0_tell {I : xI} {i : Nat} (hi : i < 10) (v : Int32) : SpecF 0 M_X0_tell [.ref 25, .int (nI i), .int v] xG1 I J0 none (xu (xu I 26 i v) 25 4 (nI (i + 1))) J0 := by
  have e1 : nI i + 1 = nI (i + 1) := nI_1 _
  refine specF_of (L := [some (.ref 25), some (.int (nI i)), some (.int v)]) (by decide) (Nat.le_of_ble_eq_true rfl) rfl ?_
  refine iX0_tell_0 (iX0_tell_1 (fun h1 => absurd h1 (nI_pos (by omega))) (fun h1 => ?_))
  refine iX0_tell_4 (iX0_tell_5 (iX0_tell_7 (fun h7 => ?_) (fun h7 => by first | exact absurd (nI_lt (b := 10) hi (by omega)) h7 | exact absurd h7 (nI_lt (b := 10) hi (by omega)))))
  refine iX0_tell_11 (iX0_tell_12 (iX0_tell_15 (iX0_tell_16 (iX0_tell_17 (vp_in_nI hi (by omega)) (iX0_tell_18 (iX0_tell_19 (iX0_tell_20 (iX0_tell_21 (iX0_tell_22 (iX0_tell_25 ?_))))))))))
  exact ⟨rfl, rfl, by rw [nI_clamp (by omega), e1], rfl⟩
/-- what the class does with one order of places -/
abbrev SkS : List Nat := [4, 5, 25, 26, 28, 29, 30, 31]
abbrev bsl (P : List Nat) (s : Nat) : List (Nat × Nat) := P.map (fun b => (b, s))
theorem c_tell {x s : Int32} {Q : xP} {m : Nat} {P : List Nat} {sn : Nat} (es : s = nI sn) (hP : P.length = m) (hm : m ≤ 5) (h10 : ∀ b ∈ P, b < 10) {an : Int32} {it : Int32} (h4 : I0 29 4 = nI m) (h30 : rowL (I0 30) P) (kk : ∀ I, xFr [25, 26] I0 I → (m ≠ 0 → AgC I (bsl P sn)) → ∀ a6, WP 30 (1000000, 0, 0) none M_X8_seek Q 67 [some (.ref 29), some (.int x), some (.int s), some (.int an), some (.int it), some (.int (nI m)), a6] [] xG1 I J0) : ∀ (n k : Nat), k + n = m → ∀ (I : xI), xFr [25, 26] I0 I → (k ≠ 0 → I 25 4 = nI k) → rdAt (I 26) (bsl (P.take k) sn) → ∀ a6, WP 30 (1000000, 0, 0) none M_X8_seek Q 31 [some (.ref 29), some (.int x), some (.int s), some (.int an), some (.int it), some (.int (nI k)), a6] [] xG1 I J0 := by
  subst es
  intro n
  induction n with
  | zero =>
    intro k hk I hI hk4 hr a6
    obtain rfl : k = m := by omega
    have e4 : I 29 4 = nI k := by rw [hI 29 (by decide)]; exact h4
    refine iX8_seek_31 (iX8_seek_33 (iX8_seek_34 ?_))
    rw [e4]
    refine iX8_seek_37 (fun h37 => ?_) (fun h37 => by first | exact absurd (Int32.le_refl _) h37 | exact absurd h37 (Int32.le_refl _))
    exact kk I hI (fun z => ⟨by rw [hk4 z]; simp [hP], by rw [List.take_of_length_le (by omega)] at hr; exact hr⟩) a6
  | succ n ih =>
    intro k hk I hI hk4 hr a6
    have e4 : I 29 4 = nI m := by rw [hI 29 (by decide)]; exact h4
    have ei : nI k + (1) = nI (k + 1) := nI_1 _
    have hg := gL_get (l := P) (k := k) (by omega)
    have hb := h10 _ (List.mem_of_getElem? hg)
    have e30 : I 30 k = nI (gL P k) := by rw [hI 30 (by decide)]; exact h30 k _ hg
    have eT : bsl (P.take (k + 1)) sn = bsl (P.take k) sn ++ [(gL P k, sn)] := by
      unfold bsl
      rw [List.take_succ, hg, List.map_append]
      rfl
    have lT : (bsl (P.take k) sn).length = k := by simp; omega
    refine iX8_seek_31 (iX8_seek_33 (iX8_seek_34 ?_))
    rw [e4]
    refine iX8_seek_37 (fun h37 => absurd h37 (nI_ge (by omega) (by omega))) (fun h37 => ?_)
    refine iX8_seek_40 (iX8_seek_41 (iX8_seek_44 (iX8_seek_46 (iX8_seek_48 (iX8_seek_49 (iX8_seek_52 (iX8_seek_54 (vp_in_nI (by omega) (by omega)) ?_)))))))
    rw [nI_clamp (by omega), e30]
    refine iX8_seek_55 (iX8_seek_56 (iX8_seek_57 ?_))
    rw [bs_mk]
    refine iX8_seek_58 (s_X0_tell (i := k) (by omega) _) (iX8_seek_61 (iX8_seek_64 ?_))
    rw [ei]
    refine ih (k + 1) (by omega) _ ((hI.up (by decide)).up (by decide)) (fun _ => xu_eq) ?_ a6
    rw [eT, xu_rowf (by decide)]
    have := rdAt_up (I := I) (a := 26) (A := bsl (P.take k) sn) (x := (gL P k, sn)) hr
    rw [lT] at this
    exact this
theorem s_worth0 (h : Wd I0 nB nS ls) {si : Nat} (hs : si ≤ 95) (e15 : I0 15 0 = nI si) : Spec 20 (1000000, 0, 0) M_X0_worthOf [.ref 25, .int (nI 0)] xG1 I0 J0 (fun r g i j => r = some (.long (lN 0)) ∧ g = xG1 ∧ xFr [4, 5, 28] I0 i ∧ xFJ [27] J0 j) := by
  refine spec_of (L := [some (.ref 25), some (.int (nI 0)), none, none, none]) (by decide) (Nat.le_of_ble_eq_true rfl) rfl ?_
  refine iX0_worthOf_0 (jX0_worthOf_1 (c_begin (A := []) (g := fun _ => true) h hs e15) (fun r1 g1 I1 J1 hq => ?_))
  obtain ⟨rfl, rfl, hq3⟩ := hq
  refine iX0_worthOf_4 (iX0_worthOf_5 (iX0_worthOf_6 (iX0_worthOf_7 (iX0_worthOf_9 (iX0_worthOf_11 (iX0_worthOf_12 (fun h12 => ?_) (fun h12 => by first | exact absurd (Int32.le_refl _) h12 | exact absurd h12 (Int32.le_refl _))))))))
  refine iX0_worthOf_60 (iX0_worthOf_61 ?_)
  exact ⟨rfl, rfl, hq3.1, hq3.2.1⟩
def oFold (v : List Nat → Nat) (Ps : List (List Nat)) (o : oT) : oT := Ps.foldl (oU v) o
/-- the class's best so far -/
def BsC (I : xI) (J : xJ) (o : oT) : Prop := J 29 5 = oE o ∧ ∀ v b, o = some (v, b) → rowL (I 31) b
theorem oE_lt {o : oT} {v : Nat} (hv : v < 2 ^ 63) (ho : ∀ w b, o = some (w, b) → w < 2 ^ 63) : lg_cmp (lN v) (oE o) ≤ 0 ↔ ∃ w b, o = some (w, b) ∧ ¬ w < v := by
  rw [lgc_le]
  match o, ho with
  | none, _ =>
    refine ⟨fun z => absurd ?_ z, fun ⟨w, b, e, _⟩ => by cases e⟩
    rw [Int64.lt_iff_toInt_lt, pk_lT hv]
    show (-1 : Int64).toInt < _
    rw [show (-1 : Int64).toInt = -1 by decide]
    omega
  | some (w, b), ho =>
    have := ho w b rfl
    show ¬ lN w < lN v ↔ _
    rw [pk_lLT this hv]
    exact ⟨fun z => ⟨w, b, rfl, z⟩, fun ⟨w', b', e, z⟩ => by cases e; exact z⟩
end
