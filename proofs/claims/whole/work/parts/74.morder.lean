/-! ===== the reference's best order ===== -/
theorem oFold_app {v : List Nat → Nat} {A B : List (List Nat)} {o : oT} : oFold v (A ++ B) o = oFold v B (oFold v A o) := List.foldl_append
theorem oFold_bd {v : List Nat → Nat} {M : Nat} : ∀ (Ps : List (List Nat)) (o : oT), (∀ P ∈ Ps, v P ≤ M) → (∀ w b, o = some (w, b) → w ≤ M) → ∀ w b, oFold v Ps o = some (w, b) → w ≤ M
  | [], _, _, ho, w, b, h => ho w b h
  | P :: Ps, o, hP, ho, w, b, h => oFold_bd Ps (oU v o P) (fun Q hQ => hP Q (List.mem_cons_of_mem _ hQ)) (fun w b e => by
      match o, ho, e with
      | none, _, e => cases e; exact hP P List.mem_cons_self
      | some (m, c), ho, e =>
        simp only [oU] at e
        by_cases q : m < v P
        · rw [if_pos q] at e; cases e; exact hP P List.mem_cons_self
        · rw [if_neg q] at e; cases e; exact ho _ _ rfl) w b h
theorem bls_upto {x n : Nat} (hx : x < 2 ^ n) (hn : n ≤ 10) : bls x = (List.range n).filter (fun b => decide (bit x b = 1)) := by
  have : ∀ m : Nat, n + m ≤ 10 → (List.range (n + m)).filter (fun b => decide (bit x b = 1)) = (List.range n).filter (fun b => decide (bit x b = 1)) := by
    intro m
    induction m with
    | zero => intro _; rfl
    | succ m ih =>
      intro hm
      have e : ¬ bit x (n + m) = 1 := fun z => by
        have := bls_lt hx (bls_mem.mpr ⟨by omega, z⟩)
        omega
      rw [show n + (m + 1) = n + m + 1 by omega, List.range_succ, List.filter_append, List.filter_cons_of_neg (by rw [decide_eq_true_eq]; exact e), List.filter_nil, List.append_nil]
      exact ih (by omega)
  have h := this (10 - n) (by omega)
  rw [show n + (10 - n) = 10 by omega] at h
  exact h
abbrev SkM : List Nat := [75, 76, 77, 80]
def BsM (I : xI) (J : xJ) (o : oT) : Prop := J 57 39 = oE o ∧ ∀ v b, o = some (v, b) → rowL (I 80) b
section
variable {I0 : xI} {nB nS : Nat} {ls : lwT} {si : Nat}
abbrev goO (I : xI) (J : xJ) (n : Nat) (o : oT) : xP := fun r g i j => r = none ∧ g = xG1 ∧ xFr SkM I i ∧ xFJ [57, 78, 79] J j ∧ BsM i j o ∧ ∀ k : Nat, k < n → i 77 k = I 77 k
theorem m_leaf (h : Wd I0 nB nS ls) (hs95 : si ≤ 95) (e15 : I0 15 0 = nI si) {s : Nat} (hs : s < nS) {d : Nat} (hd : 21 ≤ d) {P : List Nat} (hP5 : P.length ≤ 5) (hPB : ∀ b ∈ P, b < nB) {I : xI} {J : xJ} (hI : xFr SkM I0 I) (h77 : rdAt (I 77) (bsl P s)) {o : oT} (ho : ∀ w b, o = some (w, b) → w ≤ 990 * 12 ^ 10) (hB : BsM I J o) : WP d (1000000, 0, 0) none M_X12_goOrder (goO I J P.length (oU (oval I0 ls s si) o P)) 4 [some (.ref 57), some (.int (nI 0)), some (.int (nI s)), some (.int (nI P.length)), none] [] xG1 I J := by
  have fI := Fq.of hI (by decide)
  have wI := h.fr fI
  have hnB := h.2.1
  have hnS := h.2.2.2.1
  have lb : (bsl P s).length = P.length := List.length_map _
  have hget : ∀ i, i < P.length → aGet (bsl P s) i = (gL P i, s) := fun i hi => by
    unfold aGet
    rw [List.getD, List.getElem?_map, gL_get hi]
    rfl
  have hgP : ∀ i, i < P.length → gL P i < nB := fun i hi => hPB _ (List.mem_of_getElem? (gL_get hi))
  have hAt : AtM I nB nS (bsl P s) P.length := ⟨by omega, fun i hi => by
    rw [hget i hi]
    refine ⟨h77 i _ ?_, hgP i hi, hs⟩
    rw [List.getElem?_map, gL_get hi]
    rfl⟩
  have sp := s_X12_goMean (J0 := J) wI hs95 (by rw [hI 15 (by decide)]; exact e15) hAt
  rw [woR_fr fI] at sp
  have hv : woR I0 ls (bsl P s) si P.length = oval I0 ls s si P := rfl
  rw [hv] at sp
  have hvl := oval_le h hs95 (P := P) hP5 (fun b hb => by have := hPB b hb; omega) (s := s)
  have q18 := oE_lt (o := o) (v := oval I0 ls s si P) (by omega) (fun w b e => by have := ho w b e; omega)
  by_cases q : ∃ w b, o = some (w, b) ∧ ¬ w < oval I0 ls s si P
  · obtain ⟨w, b, eo, nw⟩ := id q
    have eU : oU (oval I0 ls s si) o P = o := by rw [eo]; simp only [oU]; rw [if_neg nw]
    rw [eU]
    refine iX12_goOrder_4 (iX12_goOrder_5 (jX12_goOrder_6 sp (hdd := by omega) (fun r6 g6 I6 J6 hq => ?_)))
    obtain ⟨rfl, rfl, hq3, hq4, hq5, hq6, hq7⟩ := hq
    refine iX12_goOrder_9 (iX12_goOrder_10 (iX12_goOrder_13 (iX12_goOrder_14 ?_)))
    rw [hq5, hq7, hB.1]
    refine iX12_goOrder_17 (iX12_goOrder_18 (fun h18 => absurd h18 (Int32.not_lt.mpr (q18.mpr q))) (fun h18 => ?_))
    refine iX12_goOrder_21 ?_
    exact ⟨rfl, rfl, hq3.mono (by decide), hq4, ⟨hq7.trans hB.1, fun v b e => by rw [hq3 80 (by decide)]; exact hB.2 v b e⟩, fun k _ => by rw [hq3 77 (by decide)]⟩
  · have eU : oU (oval I0 ls s si) o P = some (oval I0 ls s si P, P) := by
      match o, q with
      | none, _ => rfl
      | some (w, b), q =>
        simp only [oU]
        by_cases z : w < oval I0 ls s si P
        · rw [if_pos z]
        · exact absurd ⟨w, b, rfl, z⟩ q
    rw [eU]
    have copy : ∀ (I1 : xI) (J1 : xJ), xFr [75, 76] I I1 → xFJ [57, 78, 79] J J1 → J1 57 39 = lN (oval I0 ls s si P) → ∀ (m k : Nat), k + m = P.length → ∀ (I2 : xI), xFr [80] I1 I2 → (∀ j, j < k → I2 80 j = nI (gL P j)) → WP d (1000000, 0, 0) none M_X12_goOrder (goO I J P.length (some (oval I0 ls s si P, P))) 33 [some (.ref 57), some (.int (nI 0)), some (.int (nI s)), some (.int (nI P.length)), some (.int (nI k))] [] xG1 I2 J1 := by
      intro I1 J1 h1 hJ1 h39 m
      induction m with
      | zero =>
        intro k hk I2 h2 h80
        obtain rfl : k = P.length := by omega
        refine iX12_goOrder_33 (iX12_goOrder_35 (iX12_goOrder_36 (fun h36 => ?_) (fun h36 => by first | exact absurd (Int32.le_refl _) h36 | exact absurd h36 (Int32.le_refl _))))
        refine iX12_goOrder_62 ?_
        refine ⟨rfl, rfl, (h1.mono (by decide)).tr (h2.mono (by decide)), hJ1, ⟨h39, fun v b e k2 b2 hk2 => ?_⟩, fun k _ => by rw [h2 77 (by decide), h1 77 (by decide)]⟩
        cases e
        have hk3 := (List.getElem?_eq_some_iff.mp hk2).1
        rw [gL_get hk3] at hk2
        cases hk2
        exact h80 k2 hk3
      | succ m ih =>
        intro k hk I2 h2 h80
        have ei : nI k + (1) = nI (k + 1) := nI_1 _
        have e77 : I2 77 k = nI (10 * gL P k + s) := by
          rw [h2 77 (by decide), h1 77 (by decide)]
          have := (hAt.2 k (by omega)).1
          rw [hget k (by omega)] at this
          exact this
        have := hgP k (by omega)
        refine iX12_goOrder_33 (iX12_goOrder_35 (iX12_goOrder_36 (fun h36 => absurd h36 (nI_ge (by omega) (by omega))) (fun h36 => ?_)))
        refine iX12_goOrder_39 (iX12_goOrder_40 (iX12_goOrder_43 (iX12_goOrder_45 (iX12_goOrder_46 (iX12_goOrder_49 (iX12_goOrder_51 (vp_in_nI (by omega) (by omega)) ?_))))))
        rw [nI_clamp (by omega), e77]
        refine iX12_goOrder_52 (iX12_goOrder_54 (by decide) ?_)
        rw [bs_div (by omega) (by omega)]
        refine iX12_goOrder_55 (vp_in_nI (by omega) (by omega)) (iX12_goOrder_56 (iX12_goOrder_59 ?_))
        rw [ei, nI_clamp (by omega)]
        refine ih (k + 1) (by omega) _ (h2.up (by decide)) (fun j hj => ?_)
        by_cases z : j = k
        · subst z; exact xu_eq
        · rw [xu_col z]; exact h80 j (by omega)
    refine iX12_goOrder_4 (iX12_goOrder_5 (jX12_goOrder_6 sp (hdd := by omega) (fun r6 g6 I6 J6 hq => ?_)))
    obtain ⟨rfl, rfl, hq3, hq4, hq5, hq6, hq7⟩ := hq
    refine iX12_goOrder_9 (iX12_goOrder_10 (iX12_goOrder_13 (iX12_goOrder_14 ?_)))
    rw [hq5, hq7, hB.1]
    refine iX12_goOrder_17 (iX12_goOrder_18 (fun h18 => ?_) (fun h18 => by first | exact absurd (Int32.not_le.mp (fun z => q (q18.mp z))) h18 | exact absurd h18 (Int32.not_le.mp (fun z => q (q18.mp z)))))
    refine iX12_goOrder_22 (iX12_goOrder_23 (iX12_goOrder_24 ?_))
    rw [hq5]
    refine iX12_goOrder_27 (iX12_goOrder_30 (iX12_goOrder_31 ?_))
    exact copy _ _ hq3 (hq4.up (by decide)) xu_eq P.length 0 (by omega) _ xFr.rf (fun j hj => absurd hj (by omega))
theorem rdAt_pre {r r' : Nat → Int32} {A : List (Nat × Nat)} (h : rdAt r A) (he : ∀ k, k < A.length → r' k = r k) : rdAt r' A := fun k x hk => (he k (List.getElem?_eq_some_iff.mp hk).1).trans (h k x hk)
theorem prm_bd {L : List Nat} {f : Nat} (hf : L.length ≤ f) (hn : L.Nodup) {q : List Nat} (hq : q ∈ prm f L) : q.length = L.length ∧ ∀ b ∈ q, b ∈ L := prm_len f L hf hn q hq
theorem m_goOrder (h : Wd I0 nB nS ls) (hs95 : si ≤ 95) (e15 : I0 15 0 = nI si) {s : Nat} (hs : s < nS) : ∀ (f x : Nat), x < 2 ^ nB → (bls x).length ≤ f → f ≤ 5 → ∀ (P : List Nat), P.length + f ≤ 5 → (∀ b ∈ P, b < nB) → ∀ (I : xI) (J : xJ), xFr SkM I0 I → rdAt (I 77) (bsl P s) → ∀ (o : oT), (∀ w b, o = some (w, b) → w ≤ 990 * 12 ^ 10) → BsM I J o → Spec (40 + f) (1000000, 0, 0) M_X12_goOrder [.ref 57, .int (nI x), .int (nI s), .int (nI P.length)] xG1 I J (goO I J P.length (oFold (oval I0 ls s si) ((prm f (bls x)).map (fun q => P ++ q)) o)) := by
  have hnB := h.2.1
  have hnS := h.2.2.2.1
  have h1024 := (shl_n hnB).2.1
  intro f
  induction f with
  | zero =>
    intro x hx hl hf5 P hP5 hPB I J hI h77 o ho hB
    have e0 : bls x = [] := List.eq_nil_of_length_eq_zero (by omega)
    have hx0 : x = 0 := (bls_0 (by omega)).mp e0
    subst hx0
    have eF : oFold (oval I0 ls s si) ((prm 0 (bls 0)).map (fun q => P ++ q)) o = oU (oval I0 ls s si) o P := by simp [prm, oFold]
    rw [eF]
    refine spec_of (L := [some (.ref 57), some (.int (nI 0)), some (.int (nI s)), some (.int (nI P.length)), none]) (by decide) (Nat.le_of_ble_eq_true rfl) rfl ?_
    have lf := m_leaf h hs95 e15 hs (d := 40 + 0) (by omega) (P := P) (by omega) hPB hI h77 ho hB
    exact iX12_goOrder_0 (iX12_goOrder_1 (fun z => absurd rfl z) (fun _ => lf))
  | succ f ih =>
    intro x hx hl hf5 P hP5 hPB I J hI h77 o ho hB
    by_cases hx0 : x = 0
    · subst hx0
      have e0 : bls 0 = [] := (bls_0 (by omega)).mpr rfl
      have eF : oFold (oval I0 ls s si) ((prm (f + 1) (bls 0)).map (fun q => P ++ q)) o = oU (oval I0 ls s si) o P := by rw [e0]; simp [prm, oFold]
      rw [eF]
      refine spec_of (L := [some (.ref 57), some (.int (nI 0)), some (.int (nI s)), some (.int (nI P.length)), none]) (by decide) (Nat.le_of_ble_eq_true rfl) rfl ?_
      have lf := m_leaf h hs95 e15 hs (d := 40 + (f + 1)) (by omega) (P := P) (by omega) hPB hI h77 ho hB
      exact iX12_goOrder_0 (iX12_goOrder_1 (fun z => absurd rfl z) (fun _ => lf))
    have n0 : ¬ nI x = 0 := nI_ne0 (by omega) (by omega)
    have hbl : bls x ≠ [] := fun z => hx0 ((bls_0 (by omega)).mp z)
    have lb : (bsl P s).length = P.length := List.length_map _
    -- what one bill brings
    have eFlat : (prm (f + 1) (bls x)).map (fun q => P ++ q) = (bls x).flatMap (fun b => (prm f ((bls x).filter (fun c => decide (c ≠ b)))).map (fun q => P ++ b :: q)) := by
      simp only [prm]
      rw [if_neg hbl, List.map_flatMap]
      exact fm_congr (fun b _ => by rw [List.map_map]; rfl)
    rw [eFlat, bls_upto hx hnB]
    rw [← bls_upto hx hnB]
    have hFl : ∀ (D : List Nat) (o1 : oT), (∀ b ∈ D, b ∈ bls x) → (∀ w b, o1 = some (w, b) → w ≤ 990 * 12 ^ 10) → ∀ w b, oFold (oval I0 ls s si) (D.flatMap (fun b => (prm f ((bls x).filter (fun c => decide (c ≠ b)))).map (fun q => P ++ b :: q))) o1 = some (w, b) → w ≤ 990 * 12 ^ 10 := by
      intro D o1 hD ho1
      refine oFold_bd _ _ (fun Q hQ => ?_) ho1
      obtain ⟨b, hb, hQ⟩ := List.mem_flatMap.mp hQ
      obtain ⟨q, hq, rfl⟩ := List.mem_map.mp hQ
      have hbx := hD b hb
      have e1 : (bls x).filter (fun c => decide (c ≠ b)) = (bls x).erase b := by
        rw [(bls_nodup x).erase_eq_filter]
        exact List.filter_congr (fun c _ => by rw [Bool.eq_iff_iff]; simp)
      have l1 : ((bls x).filter (fun c => decide (c ≠ b))).length + 1 = (bls x).length := by
        rw [e1, List.length_erase_of_mem hbx]
        have := List.length_pos_of_mem hbx
        omega
      obtain ⟨p1, p2⟩ := prm_bd (f := f) (by omega) ((bls_nodup x).filter _) hq
      refine oval_le h hs95 (by simp only [List.length_append, List.length_cons]; omega) (fun c hc => ?_)
      rcases List.mem_append.mp hc with hc | hc
      · have := hPB c hc; omega
      · rcases List.mem_cons.mp hc with rfl | hc
        · exact (bls_mem.mp hbx).1
        · exact (bls_mem.mp (List.mem_filter.mp (p2 c hc)).1).1
    have loop : ∀ (m b : Nat), b + m = nB → ∀ (I1 : xI) (J1 : xJ), xFr SkM I I1 → xFJ [57, 78, 79] J J1 → (∀ k, k < P.length → I1 77 k = I 77 k) → BsM I1 J1 (oFold (oval I0 ls s si) (((List.range b).filter (fun b => decide (bit x b = 1))).flatMap (fun b => (prm f ((bls x).filter (fun c => decide (c ≠ b)))).map (fun q => P ++ b :: q))) o) → WP (40 + (f + 1)) (1000000, 0, 0) none M_X12_goOrder (goO I J P.length (oFold (oval I0 ls s si) ((bls x).flatMap (fun b => (prm f ((bls x).filter (fun c => decide (c ≠ b)))).map (fun q => P ++ b :: q))) o)) 66 [some (.ref 57), some (.int (nI x)), some (.int (nI s)), some (.int (nI P.length)), some (.int (nI b))] [] xG1 I1 J1 := by
      intro m
      induction m with
      | zero =>
        intro b hb I1 J1 h1 hJ1 hk1 hB1
        obtain rfl : b = nB := by omega
        rw [← bls_upto hx hnB] at hB1
        have e1 : I1 57 1 = nI b := by rw [h1 57 (by decide), hI 57 (by decide)]; exact h.2.2.2.2.1
        refine iX12_goOrder_66 (iX12_goOrder_68 (iX12_goOrder_69 ?_))
        rw [e1]
        refine iX12_goOrder_72 (fun h72 => ?_) (fun h72 => by first | exact absurd (Int32.le_refl _) h72 | exact absurd h72 (Int32.le_refl _))
        refine iX12_goOrder_122 ?_
        exact ⟨rfl, rfl, h1, hJ1, hB1, hk1⟩
      | succ m ihm =>
        intro b hb I1 J1 h1 hJ1 hk1 hB1
        have e1 : I1 57 1 = nI nB := by rw [h1 57 (by decide), hI 57 (by decide)]; exact h.2.2.2.2.1
        have ei : nI b + (1) = nI (b + 1) := nI_1 _
        have f72 : ¬ nI nB ≤ nI b := nI_ge (by omega) (by omega)
        have hbk := bit_01 x b
        have ihm := ihm (b + 1) (by omega)
        rw [List.range_succ, List.filter_append] at ihm
        by_cases q : bit x b = 1
        · rw [List.filter_cons_of_pos (by rw [decide_eq_true q]), List.filter_nil, List.flatMap_append, oFold_app] at ihm
          generalize hoe : oFold (oval I0 ls s si) (((List.range b).filter (fun b => decide (bit x b = 1))).flatMap (fun b => (prm f ((bls x).filter (fun c => decide (c ≠ b)))).map (fun q => P ++ b :: q))) o = o1 at *
          have ho1 : ∀ w b, o1 = some (w, b) → w ≤ 990 * 12 ^ 10 := by
            rw [← hoe]
            exact hFl _ o (fun b hb => by
              have hb2 := List.mem_filter.mp hb
              have := List.mem_range.mp hb2.1
              exact bls_mem.mpr ⟨by omega, of_decide_eq_true hb2.2⟩) ho
          obtain ⟨r1, r2⟩ := bls_rest (x := x) (b := b) (by omega) (by omega) q
          have hbx : b ∈ bls x := bls_mem.mpr ⟨by omega, q⟩
          have eE : (bls x).filter (fun c => decide (c ≠ b)) = (bls x).erase b := by
            rw [(bls_nodup x).erase_eq_filter]
            exact List.filter_congr (fun c _ => by rw [Bool.eq_iff_iff]; simp)
          have l1 : (bls (x - 2 ^ b)).length + 1 = (bls x).length := by
            rw [r2, eE, List.length_erase_of_mem hbx]
            have := List.length_pos_of_mem hbx
            omega
          have lP : (P ++ [b]).length = P.length + 1 := by simp
          have h77' : rdAt (xu I1 77 P.length (nI (10 * b + s)) 77) (bsl (P ++ [b]) s) := by
            have := rdAt_up (I := I1) (a := 77) (A := bsl P s) (x := (b, s)) (rdAt_pre h77 (fun k hk => hk1 k (by omega)))
            rw [lb] at this
            have e : bsl (P ++ [b]) s = bsl P s ++ [(b, s)] := by unfold bsl; rw [List.map_append]; rfl
            rw [e]
            exact this
          have sp := ih (x - 2 ^ b) (Nat.lt_of_le_of_lt (Nat.sub_le _ _) hx) (by omega) (by omega) (P ++ [b]) (by omega) (fun c hc => by
            rcases List.mem_append.mp hc with hc | hc
            · exact hPB c hc
            · simp at hc; omega) (xu I1 77 P.length (nI (10 * b + s))) J1 ((hI.tr h1).up (by decide)) h77' o1 ho1 ⟨hB1.1, fun v b e => by rw [xu_rowf (by decide)]; exact hB1.2 v b e⟩
          have eO : oFold (oval I0 ls s si) ((prm f (bls (x - 2 ^ b))).map (fun q => (P ++ [b]) ++ q)) o1 = oFold (oval I0 ls s si) ([b].flatMap (fun b => (prm f ((bls x).filter (fun c => decide (c ≠ b)))).map (fun q => P ++ b :: q))) o1 := by
            rw [r2]
            simp only [List.flatMap_cons, List.flatMap_nil, List.append_nil, List.append_assoc, List.cons_append, List.nil_append]
          rw [eO, lP] at sp
          have e112 : nI P.length + 1 = nI (P.length + 1) := nI_1 _
          refine iX12_goOrder_66 (iX12_goOrder_68 (iX12_goOrder_69 ?_))
          rw [e1]
          refine iX12_goOrder_72 (fun h72 => absurd h72 (f72)) (fun h72 => ?_)
          refine iX12_goOrder_75 (iX12_goOrder_76 (iX12_goOrder_78 (s_X12_has' (x := x) (by omega) (by omega)) (hdd := by omega) ?_))
          rw [q]
          refine iX12_goOrder_81 (fun h81 => ?_) (fun h81 => by first | exact absurd ((by decide : ¬ nI 1 = 0)) h81 | exact absurd h81 ((by decide : ¬ nI 1 = 0)))
          refine iX12_goOrder_87 (iX12_goOrder_88 (iX12_goOrder_91 (iX12_goOrder_92 (iX12_goOrder_94 (iX12_goOrder_96 (iX12_goOrder_97 (iX12_goOrder_98 ?_)))))))
          rw [bs_mk]
          refine iX12_goOrder_99 (vp_in_nI (by omega) (by omega)) ?_
          rw [nI_clamp (by omega)]
          refine iX12_goOrder_100 (iX12_goOrder_101 (iX12_goOrder_102 (iX12_goOrder_103 (iX12_goOrder_105 (iX12_goOrder_106 (iX12_goOrder_107 (iX12_goOrder_108 ?_)))))))
          rw [r1]
          refine iX12_goOrder_109 (iX12_goOrder_110 (iX12_goOrder_111 (iX12_goOrder_112 ?_)))
          rw [e112]
          refine jX12_goOrder_113 sp (hdd := by omega) (fun r113 g113 I113 J113 hq => ?_)
          obtain ⟨rfl, rfl, hq3, hq4, hq5, hq6⟩ := hq
          refine iX12_goOrder_116 (iX12_goOrder_119 ?_)
          rw [ei]
          refine ihm _ _ ((h1.up (by decide)).tr hq3) (hJ1.tr hq4) (fun k hk => ?_) hq5
          rw [hq6 k (by omega), xu_col (by omega)]
          exact hk1 k hk
        · rw [List.filter_cons_of_neg (by rw [decide_eq_true_eq]; exact q), List.filter_nil, List.append_nil] at ihm
          refine iX12_goOrder_66 (iX12_goOrder_68 (iX12_goOrder_69 ?_))
          rw [e1]
          refine iX12_goOrder_72 (fun h72 => absurd h72 (f72)) (fun h72 => ?_)
          refine iX12_goOrder_75 (iX12_goOrder_76 (iX12_goOrder_78 (s_X12_has' (x := x) (by omega) (by omega)) (hdd := by omega) ?_))
          rw [show bit x b = 0 by omega]
          refine iX12_goOrder_81 (fun h81 => absurd h81 ((by decide : ¬ ¬ nI 0 = 0))) (fun h81 => ?_)
          refine iX12_goOrder_84 (iX12_goOrder_116 (iX12_goOrder_119 ?_))
          rw [ei]
          exact ihm I1 J1 h1 hJ1 hk1 hB1
    refine spec_of (L := [some (.ref 57), some (.int (nI x)), some (.int (nI s)), some (.int (nI P.length)), none]) (by decide) (Nat.le_of_ble_eq_true rfl) rfl ?_
    refine iX12_goOrder_0 (iX12_goOrder_1 (fun h1 => ?_) (fun h1 => by first | exact absurd (n0) h1 | exact absurd h1 (n0)))
    refine iX12_goOrder_63 (iX12_goOrder_64 ?_)
    exact loop nB 0 (by omega) I J xFr.rf xFJ.rf (fun _ _ => rfl) hB
end
