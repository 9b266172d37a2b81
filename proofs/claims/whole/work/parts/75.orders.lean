/-! ===== pairs order, orderWorth ===== -/
def mO (nB nS : Nat) (set s : Int32) : Prop := ∃ x sn : Nat, x < 2 ^ nB ∧ set = nI x ∧ pcn x ≤ 5 ∧ sn < nS ∧ s = nI sn
theorem mO_cases {I : xI} {nB nS : Nat} {ls : lwT} (h : Wd I nB nS ls) (set s : Int32) : mO nB nS set s ∨ set < 0 ∨ nI (2 ^ nB) ≤ set ∨ (∃ x : Nat, x < 2 ^ nB ∧ set = nI x ∧ (5 < pcn x ∨ f_has I s 4 = 0)) := by
  obtain ⟨p1, p2, p3⟩ := shl_n h.2.1
  by_cases h0 : set < 0
  · exact Or.inr (Or.inl h0)
  by_cases h1 : nI (2 ^ nB) ≤ set
  · exact Or.inr (Or.inr (Or.inl h1))
  obtain ⟨x, hx, rfl⟩ := nI_of (x := set) h0
  have hx2 : x < 2 ^ nB := Nat.not_le.mp fun z => h1 (nI_le z hx)
  by_cases h2 : 5 < pcn x
  · exact Or.inr (Or.inr (Or.inr ⟨x, hx2, rfl, Or.inl h2⟩))
  by_cases h3 : f_has I s 4 = 0
  · exact Or.inr (Or.inr (Or.inr ⟨x, hx2, rfl, Or.inr h3⟩))
  obtain ⟨sn, hs, rfl⟩ := nI_of (x := s) (by unfold f_has at h3; grind)
  exact Or.inl ⟨x, sn, hx2, rfl, by omega, hasS_lt h hs h3, rfl⟩
section
variable {I : xI} {J : xJ} {nB nS : Nat} {ls : lwT}
theorem s_X8_mayBe_yes (h : Wd I nB nS ls) {x sn : Nat} (hx : x < 2 ^ nB) (h5 : pcn x ≤ 5) (hs : sn < nS) : SpecF 3 M_X8_mayBe [.ref 29, .int (nI x), .int (nI sn)] xG1 I J (some (.int 1)) I J := by
  obtain ⟨p1, p2, p3⟩ := shl_n h.2.1
  refine specF_of (L := [some (.ref 29), some (.int (nI x)), some (.int (nI sn))]) (by decide) (Nat.le_of_ble_eq_true rfl) rfl ?_
  have e4 : f_has I (nI sn) 4 = 1 := has_s h hs (w := 4) (Or.inl rfl)
  refine iX8_mayBe_0 (iX8_mayBe_1 (fun h1 => absurd h1 (nI_pos (by omega))) (fun h1 => ?_))
  refine iX8_mayBe_4 (iX8_mayBe_5 (iX8_mayBe_6 (iX8_mayBe_7 (iX8_mayBe_10 s_X5_billCount ?_))))
  rw [h.1]
  refine iX8_mayBe_13 ?_
  rw [p1]
  refine iX8_mayBe_14 (fun h14 => ?_) (fun h14 => by first | exact absurd (nI_lt hx (by omega)) h14 | exact absurd h14 (nI_lt hx (by omega)))
  refine iX8_mayBe_19 (iX8_mayBe_20 (s_bitCount _) ?_)
  rw [bc_pcn (by omega)]
  refine iX8_mayBe_23 (iX8_mayBe_24 (fun h24 => absurd h24 (nI_nlt (b := pcn x) (a := 5) (by omega) (by omega))) (fun h24 => ?_))
  refine iX8_mayBe_27 (iX8_mayBe_28 (iX8_mayBe_31 (iX8_mayBe_32 (iX8_mayBe_33 (s_X5_has _ _) ?_))))
  rw [e4]
  refine iX8_mayBe_36 (fun h36 => absurd h36 ((by decide : ¬ (1 : Int32) = 0))) (fun h36 => ?_)
  refine iX8_mayBe_39 (iX8_mayBe_40 (iX8_mayBe_44 ?_))
  exact ⟨rfl, rfl, rfl, rfl⟩
theorem s_X8_mayBe_no (h : Wd I nB nS ls) {set s : Int32} (hb : set < 0 ∨ nI (2 ^ nB) ≤ set ∨ (∃ x : Nat, x < 2 ^ nB ∧ set = nI x ∧ (5 < pcn x ∨ f_has I s 4 = 0))) : SpecF 3 M_X8_mayBe [.ref 29, .int set, .int s] xG1 I J (some (.int 0)) I J := by
  obtain ⟨p1, p2, p3⟩ := shl_n h.2.1
  refine specF_of (L := [some (.ref 29), some (.int set), some (.int s)]) (by decide) (Nat.le_of_ble_eq_true rfl) rfl ?_
  rcases hb with hb | hb | ⟨x, hx, rfl, hb⟩
  · refine iX8_mayBe_0 (iX8_mayBe_1 (fun h1 => ?_) (fun h1 => by first | exact absurd (hb) h1 | exact absurd h1 (hb)))
    refine iX8_mayBe_17 (iX8_mayBe_18 ?_)
    exact ⟨rfl, rfl, rfl, rfl⟩
  · refine iX8_mayBe_0 (iX8_mayBe_1 (fun h1 => ?_) (fun h1 => ?_))
    · refine iX8_mayBe_17 (iX8_mayBe_18 ?_)
      exact ⟨rfl, rfl, rfl, rfl⟩
    · refine iX8_mayBe_4 (iX8_mayBe_5 (iX8_mayBe_6 (iX8_mayBe_7 (iX8_mayBe_10 s_X5_billCount ?_))))
      rw [h.1]
      refine iX8_mayBe_13 ?_
      rw [p1]
      refine iX8_mayBe_14 (fun h14 => absurd h14 (Int32.not_lt.mpr hb)) (fun h14 => ?_)
      refine iX8_mayBe_17 (iX8_mayBe_18 ?_)
      exact ⟨rfl, rfl, rfl, rfl⟩
  · have q24 : (5 : Int32) < nI (pcn x) ↔ 5 < pcn x := nI_ltI (a := 5) (by omega) (by have := pcn_le x; omega)
    refine iX8_mayBe_0 (iX8_mayBe_1 (fun h1 => ?_) (fun h1 => ?_))
    · refine iX8_mayBe_17 (iX8_mayBe_18 ?_)
      exact ⟨rfl, rfl, rfl, rfl⟩
    · refine iX8_mayBe_4 (iX8_mayBe_5 (iX8_mayBe_6 (iX8_mayBe_7 (iX8_mayBe_10 s_X5_billCount ?_))))
      rw [h.1]
      refine iX8_mayBe_13 ?_
      rw [p1]
      refine iX8_mayBe_14 (fun h14 => ?_) (fun h14 => by first | exact absurd (nI_lt hx (by omega)) h14 | exact absurd h14 (nI_lt hx (by omega)))
      refine iX8_mayBe_19 (iX8_mayBe_20 (s_bitCount _) ?_)
      rw [bc_pcn (by omega)]
      refine iX8_mayBe_23 (iX8_mayBe_24 (fun h24 => ?_) (fun h24 => ?_))
      · refine iX8_mayBe_43 (iX8_mayBe_44 ?_)
        exact ⟨rfl, rfl, rfl, rfl⟩
      · refine iX8_mayBe_27 (iX8_mayBe_28 (iX8_mayBe_31 (iX8_mayBe_32 (iX8_mayBe_33 (s_X5_has _ _) (iX8_mayBe_36 (fun h36 => ?_) (fun h36 => ?_))))))
        · refine iX8_mayBe_43 (iX8_mayBe_44 ?_)
          exact ⟨rfl, rfl, rfl, rfl⟩
        · exfalso
          rcases hb with z | z
          · exact h24 (q24.mpr z)
          · exact h36 z
theorem s_X12_mayOrder_yes (h : Wd I nB nS ls) {x sn : Nat} (hx : x < 2 ^ nB) (h5 : pcn x ≤ 5) (hs : sn < nS) : SpecF 3 M_X12_mayOrder [.ref 57, .int (nI x), .int (nI sn)] xG1 I J (some (.int 1)) I J := by
  obtain ⟨p1, p2, p3⟩ := shl_n h.2.1
  have em : nI (2 ^ nB) - 1 = nI (2 ^ nB - 1) := by
    have := nI_pred (2 ^ nB - 1)
    rw [Nat.sub_add_cancel (by omega)] at this
    exact this
  have e13 : f_in (nI x) 0 (nI (2 ^ nB - 1)) = 1 := f_in_1 (nI_pos' (by omega)) (nI_le (by omega) (by omega))
  have e4 : f_has I (nI sn) 4 = 1 := has_s h hs (w := 4) (Or.inl rfl)
  refine specF_of (L := [some (.ref 57), some (.int (nI x)), some (.int (nI sn))]) (by decide) (Nat.le_of_ble_eq_true rfl) rfl ?_
  refine iX12_mayOrder_0 (iX12_mayOrder_1 (iX12_mayOrder_2 (iX12_mayOrder_3 (iX12_mayOrder_4 ?_))))
  rw [h.2.2.2.2.1]
  refine iX12_mayOrder_7 ?_
  rw [p1]
  refine iX12_mayOrder_8 (iX12_mayOrder_9 ?_)
  rw [em]
  refine iX12_mayOrder_10 (s_X12_in _ _ _) ?_
  rw [e13]
  refine iX12_mayOrder_13 (fun h13 => absurd h13 ((by decide : ¬ (1 : Int32) = 0))) (fun h13 => ?_)
  refine iX12_mayOrder_16 (iX12_mayOrder_17 (s_X12_bitsOf (by omega)) (iX12_mayOrder_20 (iX12_mayOrder_21 (fun h21 => absurd h21 (nI_nlt (b := pcn x) (a := 5) (by omega) (by omega))) (fun h21 => ?_))))
  refine iX12_mayOrder_24 (iX12_mayOrder_25 (iX12_mayOrder_26 (s_X12_isSenator _) ?_))
  rw [hs_in h, e4]
  refine iX12_mayOrder_29 (fun h29 => absurd h29 ((by decide : ¬ (1 : Int32) = 0))) (fun h29 => ?_)
  refine iX12_mayOrder_32 (iX12_mayOrder_33 (iX12_mayOrder_37 ?_))
  exact ⟨rfl, rfl, rfl, rfl⟩
theorem s_X12_mayOrder_no (h : Wd I nB nS ls) {set s : Int32} (hb : set < 0 ∨ nI (2 ^ nB) ≤ set ∨ (∃ x : Nat, x < 2 ^ nB ∧ set = nI x ∧ (5 < pcn x ∨ f_has I s 4 = 0))) : SpecF 3 M_X12_mayOrder [.ref 57, .int set, .int s] xG1 I J (some (.int 0)) I J := by
  obtain ⟨p1, p2, p3⟩ := shl_n h.2.1
  have em : nI (2 ^ nB) - 1 = nI (2 ^ nB - 1) := by
    have := nI_pred (2 ^ nB - 1)
    rw [Nat.sub_add_cancel (by omega)] at this
    exact this
  refine specF_of (L := [some (.ref 57), some (.int set), some (.int s)]) (by decide) (Nat.le_of_ble_eq_true rfl) rfl ?_
  rcases hb with hb | hb | ⟨x, hx, rfl, hb⟩
  · have e13 : f_in set 0 (nI (2 ^ nB - 1)) = 0 := by unfold f_in; rw [if_pos (Or.inl hb)]
    refine iX12_mayOrder_0 (iX12_mayOrder_1 (iX12_mayOrder_2 (iX12_mayOrder_3 (iX12_mayOrder_4 ?_))))
    rw [h.2.2.2.2.1]
    refine iX12_mayOrder_7 ?_
    rw [p1]
    refine iX12_mayOrder_8 (iX12_mayOrder_9 ?_)
    rw [em]
    refine iX12_mayOrder_10 (s_X12_in _ _ _) (iX12_mayOrder_13 (fun h13 => ?_) (fun h13 => by first | exact absurd (e13) h13 | exact absurd h13 (e13)))
    refine iX12_mayOrder_36 (iX12_mayOrder_37 ?_)
    exact ⟨rfl, rfl, rfl, rfl⟩
  · have e13 : f_in set 0 (nI (2 ^ nB - 1)) = 0 := by
      unfold f_in
      have : nI (2 ^ nB - 1) < nI (2 ^ nB) := nI_lt (by omega) (by omega)
      rw [if_pos (Or.inr (Int32.lt_of_lt_of_le this hb))]
    refine iX12_mayOrder_0 (iX12_mayOrder_1 (iX12_mayOrder_2 (iX12_mayOrder_3 (iX12_mayOrder_4 ?_))))
    rw [h.2.2.2.2.1]
    refine iX12_mayOrder_7 ?_
    rw [p1]
    refine iX12_mayOrder_8 (iX12_mayOrder_9 ?_)
    rw [em]
    refine iX12_mayOrder_10 (s_X12_in _ _ _) (iX12_mayOrder_13 (fun h13 => ?_) (fun h13 => by first | exact absurd (e13) h13 | exact absurd h13 (e13)))
    refine iX12_mayOrder_36 (iX12_mayOrder_37 ?_)
    exact ⟨rfl, rfl, rfl, rfl⟩
  · have e13 : f_in (nI x) 0 (nI (2 ^ nB - 1)) = 1 := f_in_1 (nI_pos' (by omega)) (nI_le (by omega) (by omega))
    have q24 : (5 : Int32) < nI (pcn x) ↔ 5 < pcn x := nI_ltI (a := 5) (by omega) (by have := pcn_le x; omega)
    refine iX12_mayOrder_0 (iX12_mayOrder_1 (iX12_mayOrder_2 (iX12_mayOrder_3 (iX12_mayOrder_4 ?_))))
    rw [h.2.2.2.2.1]
    refine iX12_mayOrder_7 ?_
    rw [p1]
    refine iX12_mayOrder_8 (iX12_mayOrder_9 ?_)
    rw [em]
    refine iX12_mayOrder_10 (s_X12_in _ _ _) ?_
    rw [e13]
    refine iX12_mayOrder_13 (fun h13 => absurd h13 ((by decide : ¬ (1 : Int32) = 0))) (fun h13 => ?_)
    refine iX12_mayOrder_16 (iX12_mayOrder_17 (s_X12_bitsOf (by omega)) (iX12_mayOrder_20 (iX12_mayOrder_21 (fun h21 => ?_) (fun h21 => ?_))))
    · refine iX12_mayOrder_36 (iX12_mayOrder_37 ?_)
      exact ⟨rfl, rfl, rfl, rfl⟩
    · refine iX12_mayOrder_24 (iX12_mayOrder_25 (iX12_mayOrder_26 (s_X12_isSenator _) ?_))
      rw [hs_in h]
      refine iX12_mayOrder_29 (fun h29 => ?_) (fun h29 => ?_)
      · refine iX12_mayOrder_36 (iX12_mayOrder_37 ?_)
        exact ⟨rfl, rfl, rfl, rfl⟩
      · exfalso
        rcases hb with z | z
        · exact h21 (q24.mpr z)
        · exact h29 z
theorem s_X12_findOrder (h : Wd I nB nS ls) {si : Nat} (hs95 : si ≤ 95) (e15 : I 15 0 = nI si) {x s : Nat} (hx : x < 2 ^ nB) (hs : s < nS) (h5 : pcn x ≤ 5) : Spec 60 (1000000, 0, 0) M_X12_findOrder [.ref 57, .int (nI x), .int (nI s)] xG1 I J (fun r g i j => r = none ∧ g = xG1 ∧ Fq I i ∧ Fj J j ∧ i 57 38 = nI (pcn x) ∧ BsM i j (oFold (oval I ls s si) (prm (pcn x) (bls x)) none)) := by
  have hx1024 : x < 1024 := by have := (shl_n h.2.1).2.1; omega
  refine spec_of (L := [some (.ref 57), some (.int (nI x)), some (.int (nI s))]) (by decide) (Nat.le_of_ble_eq_true rfl) rfl ?_
  have f1 : Fq I (xu I 57 38 (nI (pcn x))) := Fq.rf.upk (Or.inr rfl)
  have sp := m_goOrder (I0 := xu I 57 38 (nI (pcn x))) (h.fr f1) hs95 (by rw [xu_row (by decide)]; exact e15) hs (pcn x) x hx (by rw [bls_len hx1024]; exact Nat.le_refl _) h5 [] (by simp; omega) (fun b hb => by simp at hb) (xu I 57 38 (nI (pcn x))) (xu J 57 39 (-1)) xFr.rf (fun k x hk => by simp at hk) none (fun w b e => by cases e) ⟨xu_eq, fun v b e => by cases e⟩
  rw [oval_fr f1, show (prm (pcn x) (bls x)).map (fun q => [] ++ q) = prm (pcn x) (bls x) from (congrArg (fun z => (prm (pcn x) (bls x)).map z) (funext fun q => List.nil_append q)).trans (List.map_id _)] at sp
  have hp := pcn_le x
  refine iX12_findOrder_0 (iX12_findOrder_1 (iX12_findOrder_4 (iX12_findOrder_7 (iX12_findOrder_8 (iX12_findOrder_9 (s_X12_bitsOf hx1024) (iX12_findOrder_12 (iX12_findOrder_15 (iX12_findOrder_16 (iX12_findOrder_17 (iX12_findOrder_18 (jX12_findOrder_19 sp (hdd := by omega) (fun r19 g19 I19 J19 hq => ?_))))))))))))
  obtain ⟨rfl, rfl, hq3, hq4, hq5, hq6⟩ := hq
  refine iX12_findOrder_22 ?_
  refine ⟨rfl, rfl, f1.tr (Fq.of hq3 (by decide)), fun a ha => ?_, by rw [hq3 57 (by decide)]; exact xu_eq, hq5⟩
  have h57 : ¬ a = 57 := fun z => ha (by rw [z]; decide)
  rw [(Fj.of hq4 (by decide)) a ha, xu_rowf h57]
theorem s_X8_bestAt_in {k : Nat} {c : Int32} (hk5 : k < 5) (h4 : I 29 4 = c) (hk : nI k < c) : SpecF 0 M_X8_bestAt [.ref 29, .int (nI k)] xG1 I J (some (.int (I 31 k))) I J := by
  refine specF_of (L := [some (.ref 29), some (.int (nI k))]) (by decide) (Nat.le_of_ble_eq_true rfl) rfl ?_
  refine iX8_bestAt_0 (iX8_bestAt_1 (fun h1 => absurd h1 (nI_pos (by omega))) (fun h1 => ?_))
  refine iX8_bestAt_4 (iX8_bestAt_5 (iX8_bestAt_6 ?_))
  rw [h4]
  refine iX8_bestAt_9 (fun h9 => absurd h9 (Int32.not_le.mpr hk)) (fun h9 => ?_)
  refine iX8_bestAt_12 (iX8_bestAt_13 (iX8_bestAt_16 (iX8_bestAt_17 (vp_in_nI hk5 (by omega)) (iX8_bestAt_18 (iX8_bestAt_23 ?_)))))
  exact ⟨by rw [nI_clamp (by omega)], rfl, rfl, rfl⟩
theorem s_X8_bestAt_out {k c : Int32} (h4 : I 29 4 = c) (hk : c ≤ k) : SpecF 0 M_X8_bestAt [.ref 29, .int k] xG1 I J (some (.int (-2))) I J := by
  refine specF_of (L := [some (.ref 29), some (.int k)]) (by decide) (Nat.le_of_ble_eq_true rfl) rfl ?_
  refine iX8_bestAt_0 (iX8_bestAt_1 (fun h1 => ?_) (fun h1 => ?_))
  · refine iX8_bestAt_21 (iX8_bestAt_23 ?_)
    exact ⟨rfl, rfl, rfl, rfl⟩
  · refine iX8_bestAt_4 (iX8_bestAt_5 (iX8_bestAt_6 ?_))
    rw [h4]
    refine iX8_bestAt_9 (fun h9 => ?_) (fun h9 => ?_)
    · refine iX8_bestAt_21 (iX8_bestAt_23 ?_)
      exact ⟨rfl, rfl, rfl, rfl⟩
    · exfalso
      exact h9 hk
theorem s_X8_most : SpecF 0 M_X8_most [.ref 29] xG1 I J (some (.long (J 29 5))) I J := by
  refine specF_of (L := [some (.ref 29)]) (by decide) (Nat.le_of_ble_eq_true rfl) rfl ?_
  refine iX8_most_0 (iX8_most_1 (iX8_most_4 ?_))
  exact ⟨rfl, rfl, rfl, rfl⟩
end
theorem prm_ne : ∀ (f : Nat) (L : List Nat), prm f L ≠ []
  | 0, _ => by simp [prm]
  | f + 1, L => by
    simp only [prm]
    by_cases q : L = []
    · rw [if_pos q]; simp
    · rw [if_neg q]
      match L, q with
      | b :: L, _ =>
        intro z
        rw [List.flatMap_cons] at z
        have := (List.append_eq_nil_iff.mp z).1
        exact prm_ne f _ (List.map_eq_nil_iff.mp this)
theorem oFold_is {v : List Nat → Nat} : ∀ (Ps : List (List Nat)) (o : oT), (Ps ≠ [] ∨ o ≠ none) → ∃ w b, oFold v Ps o = some (w, b)
  | [], o, h => by
    match o, h with
    | some (w, b), _ => exact ⟨w, b, rfl⟩
    | none, h => rcases h with h | h <;> exact absurd rfl h
  | P :: Ps, o, _ => oFold_is Ps (oU v o P) (Or.inr (by
      match o with
      | none => simp [oU]
      | some (m, c) => simp only [oU]; split <;> simp))
/-- the best one, all about it -/
theorem best_is {I : xI} {nB nS : Nat} {ls : lwT} (h : Wd I nB nS ls) {si : Nat} (hs95 : si ≤ 95) {x s : Nat} (hx : x < 2 ^ nB) (h5 : pcn x ≤ 5) : ∃ w b, oFold (oval I ls s si) (prm (pcn x) (bls x)) none = some (w, b) ∧ b.length = pcn x ∧ w ≤ 990 * 12 ^ 10 := by
  have hx1024 : x < 1024 := by have := (shl_n h.2.1).2.1; omega
  obtain ⟨w, b, e⟩ := oFold_is (v := oval I ls s si) (prm (pcn x) (bls x)) none (Or.inl (prm_ne _ _))
  obtain ⟨g1, -, g3⟩ := oFold_v _ _ w b (fun w b e => by cases e) e
  rcases g3 with g3 | g3
  · have hq := prm_len (pcn x) (bls x) (by rw [bls_len hx1024]; exact Nat.le_refl _) (bls_nodup x) b g3
    rw [bls_len hx1024] at hq
    refine ⟨w, b, e, hq.1, ?_⟩
    rw [g1]
    exact oval_le h hs95 (by omega) (fun c hc => (bls_mem.mp (hq.2 c hc)).1)
  · cases g3
theorem SkS_fq {I i : xI} (h : xFr SkS I i) : Fq I i := Fq.of h (by decide)
theorem pp_order : PP_order Inv := by
  intro I J h set s k
  obtain ⟨nB, nS, ls, w⟩ := Wd.of h
  by_cases hk : k < 0
  · refine pair_q (v := -1) h ?_ (fun i j hi hj => ?_)
    · refine spec_of (L := [some (.ref 0), some (.int set), some (.int s), some (.int k)]) (by decide) (Nat.le_of_ble_eq_true rfl) rfl ?_
      refine iX11_order_0 (iX11_order_1 (fun h1 => ?_) (fun h1 => by first | exact absurd (hk) h1 | exact absurd h1 (hk)))
      refine iX11_order_16 (iX11_order_17 ?_)
      exact ⟨rfl, rfl, Fq.rf, Fj.rf⟩
    · refine spec_of (L := [some (.ref 57), some (.int set), some (.int s), some (.int k)]) (by decide) (Nat.le_of_ble_eq_true rfl) rfl ?_
      rcases mO_cases (w.fr hi) set s with ⟨x, sn, hx, rfl, h5, hs, rfl⟩ | hb
      · refine iX12_order_0 (iX12_order_1 (iX12_order_2 (iX12_order_3 (s_X12_mayOrder_yes (w.fr hi) hx h5 hs) (iX12_order_6 (fun h6 => absurd h6 ((by decide : ¬ (1 : Int32) = 0))) (fun h6 => ?_)))))
        refine iX12_order_9 (iX12_order_10 (fun h10 => absurd h10 (Int32.not_le.mpr hk)) (fun h10 => ?_))
        refine iX12_order_13 (iX12_order_14 ?_)
        exact ⟨rfl, rfl, Fq.rf, Fj.rf⟩
      · refine iX12_order_0 (iX12_order_1 (iX12_order_2 (iX12_order_3 (s_X12_mayOrder_no (w.fr hi) hb) (iX12_order_6 (fun h6 => ?_) (fun h6 => by first | exact absurd (rfl) h6 | exact absurd h6 (rfl))))))
        refine iX12_order_13 (iX12_order_14 ?_)
        exact ⟨rfl, rfl, Fq.rf, Fj.rf⟩
  rcases mO_cases w set s with ⟨x, sn, hx, rfl, h5, hs, rfl⟩ | hb
  · obtain ⟨si, hsi, e15⟩ := inf_si w
    obtain ⟨kn, hkn, rfl⟩ := nI_of (x := k) hk
    obtain ⟨bw, bb, eo, lb, lw2⟩ := best_is w hsi (x := x) (s := sn) hx h5
    have sk := s_X8_seek (J0 := J) w hsi e15 hx hs h5
    rw [eo] at sk
    by_cases hk2 : kn < pcn x
    · refine pair_q (v := nI (gL bb kn)) h ?_ (fun i j hi hj => ?_)
      · refine spec_of (L := [some (.ref 0), some (.int (nI x)), some (.int (nI sn)), some (.int (nI kn))]) (by decide) (Nat.le_of_ble_eq_true rfl) rfl ?_
        refine iX11_order_0 (iX11_order_1 (fun h1 => absurd h1 (hk)) (fun h1 => ?_))
        refine iX11_order_4 (iX11_order_5 (iX11_order_8 (iX11_order_9 (iX11_order_10 (s_X8_mayBe_yes w hx h5 hs) (iX11_order_13 (fun h13 => ?_) (fun h13 => by first | exact absurd ((by decide : ¬ (1 : Int32) = 0)) h13 | exact absurd h13 ((by decide : ¬ (1 : Int32) = 0))))))))
        refine iX11_order_18 (iX11_order_19 (iX11_order_22 (iX11_order_23 (jX11_order_24 sk (fun r24 g24 I24 J24 hq => ?_)))))
        obtain ⟨rfl, rfl, hq3, hq4, hq5, hq6⟩ := hq
        refine iX11_order_27 (iX11_order_28 (iX11_order_31 (iX11_order_32 (s_X8_bestAt_in (k := kn) (by omega) hq5 (nI_lt hk2 (by omega))) (iX11_order_35 ?_))))
        exact ⟨by rw [hq6.2 _ _ rfl kn _ (gL_get (by omega))], rfl, SkS_fq hq3, Fj.of hq4 (by decide)⟩
      · have sm := s_X12_findOrder (J := j) (w.fr hi) hsi (by rw [hi.1 15 (by decide) (by decide)]; exact e15) hx hs h5
        rw [oval_fr hi, eo] at sm
        refine spec_of (L := [some (.ref 57), some (.int (nI x)), some (.int (nI sn)), some (.int (nI kn))]) (by decide) (Nat.le_of_ble_eq_true rfl) rfl ?_
        refine iX12_order_0 (iX12_order_1 (iX12_order_2 (iX12_order_3 (s_X12_mayOrder_yes (w.fr hi) hx h5 hs) (iX12_order_6 (fun h6 => absurd h6 ((by decide : ¬ (1 : Int32) = 0))) (fun h6 => ?_)))))
        refine iX12_order_9 (iX12_order_10 (fun h10 => ?_) (fun h10 => by first | exact absurd (Int32.not_lt.mp hk) h10 | exact absurd h10 (Int32.not_lt.mp hk)))
        refine iX12_order_15 (iX12_order_16 (iX12_order_17 (jX12_order_18 sm (fun r18 g18 I18 J18 hq => ?_))))
        obtain ⟨rfl, rfl, hq3, hq4, hq5, hq6⟩ := hq
        refine iX12_order_21 (iX12_order_22 (iX12_order_23 ?_))
        rw [hq5]
        refine iX12_order_26 (fun h26 => absurd h26 (nI_ge hk2 (by omega))) (fun h26 => ?_)
        refine iX12_order_29 (iX12_order_30 (iX12_order_33 (iX12_order_34 (vp_in_nI (by omega) (by omega)) (iX12_order_35 (iX12_order_40 ?_)))))
        exact ⟨by rw [nI_clamp (by omega), hq6.2 _ _ rfl kn _ (gL_get (by omega))], rfl, hq3, hq4⟩
    · refine pair_q (v := -2) h ?_ (fun i j hi hj => ?_)
      · refine spec_of (L := [some (.ref 0), some (.int (nI x)), some (.int (nI sn)), some (.int (nI kn))]) (by decide) (Nat.le_of_ble_eq_true rfl) rfl ?_
        refine iX11_order_0 (iX11_order_1 (fun h1 => absurd h1 (hk)) (fun h1 => ?_))
        refine iX11_order_4 (iX11_order_5 (iX11_order_8 (iX11_order_9 (iX11_order_10 (s_X8_mayBe_yes w hx h5 hs) (iX11_order_13 (fun h13 => ?_) (fun h13 => by first | exact absurd ((by decide : ¬ (1 : Int32) = 0)) h13 | exact absurd h13 ((by decide : ¬ (1 : Int32) = 0))))))))
        refine iX11_order_18 (iX11_order_19 (iX11_order_22 (iX11_order_23 (jX11_order_24 sk (fun r24 g24 I24 J24 hq => ?_)))))
        obtain ⟨rfl, rfl, hq3, hq4, hq5, hq6⟩ := hq
        refine iX11_order_27 (iX11_order_28 (iX11_order_31 (iX11_order_32 (s_X8_bestAt_out hq5 (nI_le (a := pcn x) (b := kn) (by omega) hkn)) (iX11_order_35 ?_))))
        exact ⟨rfl, rfl, SkS_fq hq3, Fj.of hq4 (by decide)⟩
      · have sm := s_X12_findOrder (J := j) (w.fr hi) hsi (by rw [hi.1 15 (by decide) (by decide)]; exact e15) hx hs h5
        refine spec_of (L := [some (.ref 57), some (.int (nI x)), some (.int (nI sn)), some (.int (nI kn))]) (by decide) (Nat.le_of_ble_eq_true rfl) rfl ?_
        refine iX12_order_0 (iX12_order_1 (iX12_order_2 (iX12_order_3 (s_X12_mayOrder_yes (w.fr hi) hx h5 hs) (iX12_order_6 (fun h6 => absurd h6 ((by decide : ¬ (1 : Int32) = 0))) (fun h6 => ?_)))))
        refine iX12_order_9 (iX12_order_10 (fun h10 => ?_) (fun h10 => by first | exact absurd (Int32.not_lt.mp hk) h10 | exact absurd h10 (Int32.not_lt.mp hk)))
        refine iX12_order_15 (iX12_order_16 (iX12_order_17 (jX12_order_18 sm (fun r18 g18 I18 J18 hq => ?_))))
        obtain ⟨rfl, rfl, hq3, hq4, hq5, hq6⟩ := hq
        refine iX12_order_21 (iX12_order_22 (iX12_order_23 ?_))
        rw [hq5]
        refine iX12_order_26 (fun h26 => ?_) (fun h26 => by first | exact absurd (nI_le (a := pcn x) (b := kn) (by omega) hkn) h26 | exact absurd h26 (nI_le (a := pcn x) (b := kn) (by omega) hkn))
        refine iX12_order_38 (iX12_order_40 ?_)
        exact ⟨rfl, rfl, hq3, hq4⟩
  · refine pair_q (v := -1) h ?_ (fun i j hi hj => ?_)
    · refine spec_of (L := [some (.ref 0), some (.int set), some (.int s), some (.int k)]) (by decide) (Nat.le_of_ble_eq_true rfl) rfl ?_
      refine iX11_order_0 (iX11_order_1 (fun h1 => absurd h1 (hk)) (fun h1 => ?_))
      refine iX11_order_4 (iX11_order_5 (iX11_order_8 (iX11_order_9 (iX11_order_10 (s_X8_mayBe_no w hb) (iX11_order_13 (fun h13 => absurd h13 ((fun z => z rfl))) (fun h13 => ?_))))))
      refine iX11_order_16 (iX11_order_17 ?_)
      exact ⟨rfl, rfl, Fq.rf, Fj.rf⟩
    · refine spec_of (L := [some (.ref 57), some (.int set), some (.int s), some (.int k)]) (by decide) (Nat.le_of_ble_eq_true rfl) rfl ?_
      refine iX12_order_0 (iX12_order_1 (iX12_order_2 (iX12_order_3 (s_X12_mayOrder_no (w.fr hi) (by rw [f_has_fr hi]; exact hb)) (iX12_order_6 (fun h6 => ?_) (fun h6 => by first | exact absurd (rfl) h6 | exact absurd h6 (rfl))))))
      refine iX12_order_13 (iX12_order_14 ?_)
      exact ⟨rfl, rfl, Fq.rf, Fj.rf⟩
theorem pp_orderWorth : PP_orderWorth Inv := by
  intro I J h set s p
  obtain ⟨nB, nS, ls, w⟩ := Wd.of h
  rcases mO_cases w set s with ⟨x, sn, hx, rfl, h5, hs, rfl⟩ | hb
  · by_cases hp : f_in p 0 1 = 0
    · refine pairJ_q (v := -9223372036854775808) h ?_ (fun i j hi hj => ?_)
      · refine spec_of (L := [some (.ref 0), some (.int (nI x)), some (.int (nI sn)), some (.int p)]) (by decide) (Nat.le_of_ble_eq_true rfl) rfl ?_
        refine iX11_orderWorth_0 (iX11_orderWorth_1 (s_X11_isPart _) (iX11_orderWorth_4 (fun h4 => ?_) (fun h4 => by first | exact absurd (hp) h4 | exact absurd h4 (hp))))
        refine iX11_orderWorth_19 (iX11_orderWorth_22 ?_)
        exact ⟨rfl, rfl, Fq.rf, Fj.rf⟩
      · refine spec_of (L := [some (.ref 57), some (.int (nI x)), some (.int (nI sn)), some (.int p), none, none, none]) (by decide) (Nat.le_of_ble_eq_true rfl) rfl ?_
        refine iX12_orderWorth_0 (iX12_orderWorth_1 (iX12_orderWorth_2 (iX12_orderWorth_3 (s_X12_mayOrder_yes (w.fr hi) hx h5 hs) (iX12_orderWorth_6 (fun h6 => absurd h6 ((by decide : ¬ (1 : Int32) = 0))) (fun h6 => ?_)))))
        refine iX12_orderWorth_9 (iX12_orderWorth_10 (iX12_orderWorth_11 (iX12_orderWorth_12 (s_X12_in _ _ _) (iX12_orderWorth_15 (fun h15 => absurd h15 (fun z => z hp)) (fun h15 => ?_)))))
        refine iX12_orderWorth_18 (iX12_orderWorth_21 ?_)
        exact ⟨rfl, rfl, Fq.rf, Fj.rf⟩
    have hpp := part_01 hp
    obtain ⟨si, hsi, e15⟩ := inf_si w
    obtain ⟨bw, bb, eo, lb, lw2⟩ := best_is w hsi (x := x) (s := sn) hx h5
    have sk := s_X8_seek (J0 := J) w hsi e15 hx hs h5
    rw [eo] at sk
    have hx1024 : x < 1024 := by have := (shl_n w.2.1).2.1; omega
    obtain ⟨pw1, pw2⟩ := pow12 (n := pcn x) (by omega)
    refine pairJ_q (v := frac bw (12 ^ pcn x) p) h ?_ (fun i j hi hj => ?_)
    · refine spec_of (L := [some (.ref 0), some (.int (nI x)), some (.int (nI sn)), some (.int p)]) (by decide) (Nat.le_of_ble_eq_true rfl) rfl ?_
      refine iX11_orderWorth_0 (iX11_orderWorth_1 (s_X11_isPart _) (iX11_orderWorth_4 (fun h4 => absurd h4 (hp)) (fun h4 => ?_)))
      refine iX11_orderWorth_7 (iX11_orderWorth_8 (iX11_orderWorth_11 (iX11_orderWorth_12 (iX11_orderWorth_13 (s_X8_mayBe_yes w hx h5 hs) (iX11_orderWorth_16 (fun h16 => ?_) (fun h16 => by first | exact absurd ((by decide : ¬ (1 : Int32) = 0)) h16 | exact absurd h16 ((by decide : ¬ (1 : Int32) = 0))))))))
      refine iX11_orderWorth_23 (iX11_orderWorth_24 (iX11_orderWorth_27 (iX11_orderWorth_28 (jX11_orderWorth_29 sk (fun r29 g29 I29 J29 hq => ?_)))))
      obtain ⟨rfl, rfl, hq3, hq4, hq5, hq6⟩ := hq
      refine iX11_orderWorth_32 (iX11_orderWorth_33 (iX11_orderWorth_36 s_X8_most ?_))
      rw [hq6.1]
      refine iX11_orderWorth_39 (iX11_orderWorth_40 (s_bitCount _) ?_)
      rw [bc_pcn hx1024]
      refine iX11_orderWorth_43 (s_X11_twelves (n := pcn x) (by omega)) (iX11_orderWorth_46 (iX11_orderWorth_47 (s_X11_partOf (a := bw) (by omega) pw2 (by omega) p) (iX11_orderWorth_50 ?_)))
      exact ⟨rfl, rfl, SkS_fq hq3, Fj.of hq4 (by decide)⟩
    · have sm := s_X12_findOrder (J := j) (w.fr hi) hsi (by rw [hi.1 15 (by decide) (by decide)]; exact e15) hx hs h5
      rw [oval_fr hi, eo] at sm
      refine spec_of (L := [some (.ref 57), some (.int (nI x)), some (.int (nI sn)), some (.int p), none, none, none]) (by decide) (Nat.le_of_ble_eq_true rfl) rfl ?_
      have key : ∀ (i1 : xI) (j1 : xJ), Fq i i1 → Fj j j1 → i1 57 38 = nI (pcn x) → j1 57 39 = lN bw → ∀ (m t : Nat), t + m = pcn x → WP 1000 (1000000, 0, 0) none M_X12_orderWorth (fun r g i' j' => r = some (.long (frac bw (12 ^ pcn x) p)) ∧ g = xG1 ∧ Fq i i' ∧ Fj j j') 34 [some (.ref 57), some (.int (nI x)), some (.int (nI sn)), some (.int p), some (.long (lN (12 ^ t))), none, some (.int (nI t))] [] xG1 i1 j1 := by
        intro i1 j1 hi1 hj1 h38 h39 m
        induction m with
        | zero =>
          intro t ht
          obtain rfl : t = pcn x := by omega
          refine iX12_orderWorth_34 (iX12_orderWorth_36 (iX12_orderWorth_37 ?_))
          rw [h38]
          refine iX12_orderWorth_40 (fun h40 => ?_) (fun h40 => by first | exact absurd (Int32.le_refl _) h40 | exact absurd h40 (Int32.le_refl _))
          refine iX12_orderWorth_57 (iX12_orderWorth_58 ?_)
          rw [h39]
          refine iX12_orderWorth_61 (iX12_orderWorth_63 (iX12_orderWorth_64 (s_X12_lowest (a := bw) (by omega) pw2 (by omega) p hpp) (iX12_orderWorth_67 ?_)))
          exact ⟨rfl, rfl, hi1, hj1⟩
        | succ m ih =>
          intro t ht
          have ei : nI t + (1) = nI (t + 1) := nI_1 _
          have em : lN (12 ^ t) * 12 = lN (12 ^ (t + 1)) := (lN_mul (12 ^ t) 12).trans (by rw [Nat.pow_succ])
          refine iX12_orderWorth_34 (iX12_orderWorth_36 (iX12_orderWorth_37 ?_))
          rw [h38]
          refine iX12_orderWorth_40 (fun h40 => absurd h40 (nI_ge (by omega) (by omega))) (fun h40 => ?_)
          refine iX12_orderWorth_43 (iX12_orderWorth_45 (iX12_orderWorth_48 ?_))
          rw [em]
          refine iX12_orderWorth_49 (iX12_orderWorth_51 (iX12_orderWorth_54 ?_))
          rw [ei]
          exact ih (t + 1) (by omega)
      refine iX12_orderWorth_0 (iX12_orderWorth_1 (iX12_orderWorth_2 (iX12_orderWorth_3 (s_X12_mayOrder_yes (w.fr hi) hx h5 hs) (iX12_orderWorth_6 (fun h6 => absurd h6 ((by decide : ¬ (1 : Int32) = 0))) (fun h6 => ?_)))))
      refine iX12_orderWorth_9 (iX12_orderWorth_10 (iX12_orderWorth_11 (iX12_orderWorth_12 (s_X12_in _ _ _) (iX12_orderWorth_15 (fun h15 => ?_) (fun h15 => by first | exact absurd (hp) h15 | exact absurd h15 (hp))))))
      refine iX12_orderWorth_22 (iX12_orderWorth_23 (iX12_orderWorth_24 (jX12_orderWorth_25 sm (fun r25 g25 I25 J25 hq => ?_))))
      obtain ⟨rfl, rfl, hq3, hq4, hq5, hq6⟩ := hq
      refine iX12_orderWorth_28 (iX12_orderWorth_29 (iX12_orderWorth_31 (iX12_orderWorth_32 ?_)))
      exact key _ _ hq3 hq4 hq5 hq6.1 (pcn x) 0 (by omega)
  · refine pairJ_q (v := -9223372036854775808) h ?_ (fun i j hi hj => ?_)
    · refine spec_of (L := [some (.ref 0), some (.int set), some (.int s), some (.int p)]) (by decide) (Nat.le_of_ble_eq_true rfl) rfl ?_
      refine iX11_orderWorth_0 (iX11_orderWorth_1 (s_X11_isPart _) (iX11_orderWorth_4 (fun h4 => ?_) (fun h4 => ?_)))
      · refine iX11_orderWorth_19 (iX11_orderWorth_22 ?_)
        exact ⟨rfl, rfl, Fq.rf, Fj.rf⟩
      · refine iX11_orderWorth_7 (iX11_orderWorth_8 (iX11_orderWorth_11 (iX11_orderWorth_12 (iX11_orderWorth_13 (s_X8_mayBe_no w hb) (iX11_orderWorth_16 (fun h16 => absurd h16 ((fun z => z rfl))) (fun h16 => ?_))))))
        refine iX11_orderWorth_19 (iX11_orderWorth_22 ?_)
        exact ⟨rfl, rfl, Fq.rf, Fj.rf⟩
    · refine spec_of (L := [some (.ref 57), some (.int set), some (.int s), some (.int p), none, none, none]) (by decide) (Nat.le_of_ble_eq_true rfl) rfl ?_
      refine iX12_orderWorth_0 (iX12_orderWorth_1 (iX12_orderWorth_2 (iX12_orderWorth_3 (s_X12_mayOrder_no (w.fr hi) (by rw [f_has_fr hi]; exact hb)) (iX12_orderWorth_6 (fun h6 => ?_) (fun h6 => by first | exact absurd (rfl) h6 | exact absurd h6 (rfl))))))
      refine iX12_orderWorth_18 (iX12_orderWorth_21 ?_)
      exact ⟨rfl, rfl, Fq.rf, Fj.rf⟩
