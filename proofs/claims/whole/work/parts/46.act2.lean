/-! ===== act: the reference's acts ===== -/
section
variable {I : xI} {J : xJ}
def mnote (I : xI) (v : Int32) : xI := xu (if I 57 47 < 24 then xu I 86 (I 57 47).toNatClampNeg v else I) 57 47 (I 57 47 + 1)
def mnotes (I : xI) : List Int32 → xI
  | [] => I
  | v :: vs => mnotes (mnote I v) vs
theorem mnotes_app : ∀ (xs ys : List Int32) (I : xI), mnotes I (xs ++ ys) = mnotes (mnotes I xs) ys
  | [], _, _ => rfl
  | x :: xs, ys, I => mnotes_app xs ys (mnote I x)
theorem mnote_row {v : Int32} {a b : Nat} (h : ¬ (a = 86 ∨ a = 57 ∧ b = 47)) : mnote I v a b = I a b := by
  unfold mnote
  split <;> simp only [xu] <;> grind
theorem mnotes_row {a b : Nat} (h : ¬ (a = 86 ∨ a = 57 ∧ b = 47)) : ∀ (xs : List Int32) (I : xI), mnotes I xs a b = I a b
  | [], _ => rfl
  | x :: xs, I => by simp only [mnotes]; rw [mnotes_row h xs, mnote_row h]
theorem mnotes_3 : ∀ (xs : List Int32) (I : xI) (c : Nat), I 57 47 = nI c → mnotes I xs 57 47 = nI (c + xs.length)
  | [], _, _, h => h
  | x :: xs, I, c, h => by
    simp only [mnotes]
    rw [mnotes_3 xs (mnote I x) (c + 1) (by show I 57 47 + 1 = _; rw [h]; exact nI_1 c)]
    congr 1
    simp only [List.length_cons]
    omega
theorem s_X12_ran (v : Int32) {c : Nat} (hc : I 57 47 = nI c) (h : c ≤ 1000) : SpecF 0 M_X12_ran [.ref 57, .int v] xG1 I J none (mnotes I [v]) J := by
  refine specF_of (L := [some (.ref 57), some (.int v)]) (by decide) (Nat.le_of_ble_eq_true rfl) rfl ?_
  have h0 : ¬ I 57 47 < 0 := by rw [hc]; exact nI_pos (by omega)
  refine iX12_ran_0 (iX12_ran_1 (iX12_ran_4 (iX12_ran_6 (fun h6 => ?_) (fun h6 => ?_))))
  · refine iX12_ran_19 (iX12_ran_20 (iX12_ran_21 (iX12_ran_24 (iX12_ran_25 (iX12_ran_26 (iX12_ran_29 ?_))))))
    refine ⟨rfl, rfl, ?_, rfl⟩
    simp only [mnotes, mnote]
    first | rw [if_pos (by grind)]; rfl | rw [if_neg (by grind)]
  · refine iX12_ran_9 (iX12_ran_10 (iX12_ran_13 (iX12_ran_14 (iX12_ran_17 (iX12_ran_18 (vin 24 (by decide) h0 (by grind)) (iX12_ran_19 (iX12_ran_20 (iX12_ran_21 (iX12_ran_24 (iX12_ran_25 (iX12_ran_26 (iX12_ran_29 ?_))))))))))))
    refine ⟨rfl, rfl, ?_, rfl⟩
    simp only [mnotes, mnote]
    first | rw [if_pos (by grind)]; rfl | rw [if_neg (by grind)]
theorem s_X12_plainReads (b x : Int32) {c : Nat} (hc : I 57 47 = nI c) (h : c ≤ 1000) : SpecF 1 M_X12_plainReads [.ref 57, .int b, .int x] xG1 I J (some (.int (x + b))) (mnotes I [1]) J := by
  refine specF_of (L := [some (.ref 57), some (.int b), some (.int x)]) (by decide) (Nat.le_of_ble_eq_true rfl) rfl ?_
  refine iX12_plainReads_0 (iX12_plainReads_1 (iX12_plainReads_2 (s_X12_ran _ hc h) (iX12_plainReads_5 (iX12_plainReads_6 (iX12_plainReads_7 (iX12_plainReads_8 ?_))))))
  exact ⟨rfl, rfl, rfl, rfl⟩
theorem s_X12_plainHushes (b x : Int32) {c : Nat} (hc : I 57 47 = nI c) (h : c ≤ 1000) : SpecF 1 M_X12_plainHushes [.ref 57, .int b, .int x] xG1 I J (some (.int (x ^^^ b))) (mnotes I [11]) J := by
  refine specF_of (L := [some (.ref 57), some (.int b), some (.int x)]) (by decide) (Nat.le_of_ble_eq_true rfl) rfl ?_
  refine iX12_plainHushes_0 (iX12_plainHushes_1 (iX12_plainHushes_3 (s_X12_ran _ hc h) (iX12_plainHushes_6 (iX12_plainHushes_7 (iX12_plainHushes_8 (iX12_plainHushes_9 ?_))))))
  exact ⟨rfl, rfl, rfl, rfl⟩
theorem s_X12_twinReads (b x : Int32) {c : Nat} (hc : I 57 47 = nI c) (h : c ≤ 900) : SpecF 2 M_X12_twinReads [.ref 57, .int b, .int x] xG1 I J (some (.int ((x + b) * 2))) (mnotes I [70, 1]) J := by
  refine specF_of (L := [some (.ref 57), some (.int b), some (.int x)]) (by decide) (Nat.le_of_ble_eq_true rfl) rfl ?_
  refine iX12_twinReads_0 (iX12_twinReads_1 (iX12_twinReads_3 (s_X12_ran _ hc (by omega)) (iX12_twinReads_6 (iX12_twinReads_7 (iX12_twinReads_8 (iX12_twinReads_9 (s_X12_plainReads _ _ (mnotes_3 [70] I c hc) (by simp only [List.length_cons, List.length_nil]; omega)) (iX12_twinReads_12 (iX12_twinReads_13 (iX12_twinReads_14 ?_)))))))))
  exact ⟨rfl, rfl, rfl, rfl⟩
theorem s_X12_nurseHushes (b x : Int32) {c : Nat} (hc : I 57 47 = nI c) (h : c ≤ 900) : SpecF 2 M_X12_nurseHushes [.ref 57, .int b, .int x] xG1 I J (some (.int ((x ^^^ b) * 3))) (mnotes I [40, 11]) J := by
  refine specF_of (L := [some (.ref 57), some (.int b), some (.int x)]) (by decide) (Nat.le_of_ble_eq_true rfl) rfl ?_
  refine iX12_nurseHushes_0 (iX12_nurseHushes_1 (iX12_nurseHushes_3 (s_X12_ran _ hc (by omega)) (iX12_nurseHushes_6 (iX12_nurseHushes_7 (iX12_nurseHushes_8 (iX12_nurseHushes_9 (s_X12_plainHushes _ _ (mnotes_3 [40] I c hc) (by simp only [List.length_cons, List.length_nil]; omega)) (iX12_nurseHushes_12 (iX12_nurseHushes_13 (iX12_nurseHushes_14 ?_)))))))))
  exact ⟨rfl, rfl, rfl, rfl⟩
def rdV (K b x : Int32) : Int32 := if f_underM K 1 = 0 then (if K = 7 then (x + b) * 2 - 1 else if K = 6 then (x + b) * 2 else x + b) else x + b + 3
def rdN (K : Int32) : List Int32 := if f_underM K 1 = 0 then (if K = 7 then [81, 70, 1] else if K = 6 then [70, 1] else [1]) else [20, 1]
theorem s_X12_reading (b x K : Int32) {c : Nat} (hc : I 57 47 = nI c) (h : c ≤ 800) (hb : vp_in b 50) (hK : I 85 b.toNatClampNeg = K) : SpecF 3 M_X12_reading [.ref 57, .int b, .int x] xG1 I J (some (.int (rdV K b x))) (mnotes I (rdN K)) J := by
  refine specF_of (L := [some (.ref 57), some (.int b), some (.int x)]) (by decide) (Nat.le_of_ble_eq_true rfl) rfl ?_
  refine iX12_reading_0 (iX12_reading_1 (iX12_reading_4 (iX12_reading_5 hb (iX12_reading_6 (iX12_reading_7 (s_X12_isUnder _ _) (iX12_reading_10 (fun h10 => ?_) (fun h10 => ?_)))))))
  · refine iX12_reading_28 (iX12_reading_29 (iX12_reading_32 (iX12_reading_33 hb (iX12_reading_34 (iX12_reading_36 (fun h36 => ?_) (fun h36 => ?_))))))
    · refine iX12_reading_54 (iX12_reading_55 (iX12_reading_58 (iX12_reading_59 hb (iX12_reading_60 (iX12_reading_62 (fun h62 => ?_) (fun h62 => ?_))))))
      · refine iX12_reading_74 (iX12_reading_75 (iX12_reading_76 (iX12_reading_77 (s_X12_plainReads _ _ hc (by omega)) (iX12_reading_80 ?_))))
        rw [hK] at *
        refine ⟨congrArg (fun z => some (Value.int z)) ?_, rfl, ?_, rfl⟩
        · unfold rdV; grind
        · unfold rdN; (repeat' split) <;> first | (simp only [mnotes_app, mnotes, List.cons_append, List.nil_append]; done) | (exfalso; grind)
      · refine iX12_reading_65 (iX12_reading_66 (iX12_reading_67 (iX12_reading_68 (s_X12_twinReads _ _ hc (by omega)) (iX12_reading_71 (iX12_reading_80 ?_)))))
        rw [hK] at *
        refine ⟨congrArg (fun z => some (Value.int z)) ?_, rfl, ?_, rfl⟩
        · unfold rdV; grind
        · unfold rdN; (repeat' split) <;> first | (simp only [mnotes_app, mnotes, List.cons_append, List.nil_append]; done) | (exfalso; grind)
    · refine iX12_reading_39 (iX12_reading_40 (iX12_reading_42 (s_X12_ran _ hc (by omega)) (iX12_reading_45 (iX12_reading_46 (iX12_reading_47 (iX12_reading_48 (s_X12_twinReads _ _ (mnotes_3 [81] I c hc) (by simp only [List.length_cons, List.length_nil]; omega)) (iX12_reading_51 (iX12_reading_52 (iX12_reading_53 ?_)))))))))
      rw [hK] at *
      refine ⟨congrArg (fun z => some (Value.int z)) ?_, rfl, ?_, rfl⟩
      · unfold rdV; grind
      · unfold rdN; (repeat' split) <;> first | (simp only [mnotes_app, mnotes, List.cons_append, List.nil_append]; done) | (exfalso; grind)
  · refine iX12_reading_13 (iX12_reading_14 (iX12_reading_16 (s_X12_ran _ hc (by omega)) (iX12_reading_19 (iX12_reading_20 (iX12_reading_21 (iX12_reading_22 (s_X12_plainReads _ _ (mnotes_3 [20] I c hc) (by simp only [List.length_cons, List.length_nil]; omega)) (iX12_reading_25 (iX12_reading_26 (iX12_reading_27 ?_)))))))))
    rw [hK] at *
    refine ⟨congrArg (fun z => some (Value.int z)) ?_, rfl, ?_, rfl⟩
    · unfold rdV; grind
    · unfold rdN; (repeat' split) <;> first | (simp only [mnotes_app, mnotes, List.cons_append, List.nil_append]; done) | (exfalso; grind)
theorem rdN_len (K : Int32) : (rdN K).length ≤ 3 := by
  unfold rdN
  split
  · split
    · decide
    · split <;> decide
  · decide
theorem s_X12_plainCries (b x K : Int32) {c : Nat} (hc : I 57 47 = nI c) (h : c ≤ 700) (hb : vp_in b 50) (hK : I 85 b.toNatClampNeg = K) : SpecF 4 M_X12_plainCries [.ref 57, .int b, .int x] xG1 I J (some (.int (rdV K b x * 2))) (mnotes I (10 :: rdN K)) J := by
  refine specF_of (L := [some (.ref 57), some (.int b), some (.int x)]) (by decide) (Nat.le_of_ble_eq_true rfl) rfl ?_
  refine iX12_plainCries_0 (iX12_plainCries_1 (iX12_plainCries_3 (s_X12_ran _ hc (by omega)) (iX12_plainCries_6 (iX12_plainCries_7 (iX12_plainCries_8 (iX12_plainCries_9 (s_X12_reading _ _ K (mnotes_3 [10] I c hc) (by simp only [List.length_cons, List.length_nil]; omega) hb (by rw [mnotes_row (by omega)]; exact hK)) (iX12_plainCries_12 (iX12_plainCries_13 (iX12_plainCries_14 ?_)))))))))
  exact ⟨rfl, rfl, rfl, rfl⟩
theorem s_X12_cryCries (b x K : Int32) {c : Nat} (hc : I 57 47 = nI c) (h : c ≤ 600) (hb : vp_in b 50) (hK : I 85 b.toNatClampNeg = K) : SpecF 5 M_X12_cryCries [.ref 57, .int b, .int x] xG1 I J (some (.int (-(rdV K b x * 2)))) (mnotes I (30 :: 10 :: rdN K)) J := by
  refine specF_of (L := [some (.ref 57), some (.int b), some (.int x)]) (by decide) (Nat.le_of_ble_eq_true rfl) rfl ?_
  refine iX12_cryCries_0 (iX12_cryCries_1 (iX12_cryCries_3 (s_X12_ran _ hc (by omega)) (iX12_cryCries_6 (iX12_cryCries_7 (iX12_cryCries_8 (iX12_cryCries_9 (s_X12_plainCries _ _ K (mnotes_3 [30] I c hc) (by simp only [List.length_cons, List.length_nil]; omega) hb (by rw [mnotes_row (by omega)]; exact hK)) (iX12_cryCries_12 (iX12_cryCries_13 ?_))))))))
  exact ⟨rfl, rfl, rfl, rfl⟩
def huV (K b x : Int32) : Int32 := if K = 5 then (x ^^^ b) * 3 - rdV K b 2 else if K = 3 then (x ^^^ b) * 3 else x ^^^ b
def huN (K : Int32) : List Int32 := if K = 5 then [60, 40, 11] ++ rdN K else if K = 3 then [40, 11] else [11]
theorem s_X12_hushing (b x K : Int32) {c : Nat} (hc : I 57 47 = nI c) (h : c ≤ 500) (hb : vp_in b 50) (hK : I 85 b.toNatClampNeg = K) : SpecF 4 M_X12_hushing [.ref 57, .int b, .int x] xG1 I J (some (.int (huV K b x))) (mnotes I (huN K)) J := by
  refine specF_of (L := [some (.ref 57), some (.int b), some (.int x), none]) (by decide) (Nat.le_of_ble_eq_true rfl) rfl ?_
  refine iX12_hushing_0 (iX12_hushing_1 (iX12_hushing_4 (iX12_hushing_5 hb (iX12_hushing_6 (iX12_hushing_7 (fun h7 => ?_) (fun h7 => ?_))))))
  · refine iX12_hushing_32 (iX12_hushing_33 (iX12_hushing_36 (iX12_hushing_37 hb (iX12_hushing_38 (iX12_hushing_39 (fun h39 => ?_) (fun h39 => ?_))))))
    · refine iX12_hushing_51 (iX12_hushing_52 (iX12_hushing_53 (iX12_hushing_54 (s_X12_plainHushes _ _ hc (by omega)) (iX12_hushing_57 ?_))))
      rw [hK] at *
      refine ⟨congrArg (fun z => some (Value.int z)) ?_, rfl, ?_, rfl⟩
      · unfold huV; grind
      · unfold huN; (repeat' split) <;> first | (simp only [mnotes_app, mnotes, List.cons_append, List.nil_append]; done) | (exfalso; grind)
    · refine iX12_hushing_42 (iX12_hushing_43 (iX12_hushing_44 (iX12_hushing_45 (s_X12_nurseHushes _ _ hc (by omega)) (iX12_hushing_48 (iX12_hushing_57 ?_)))))
      rw [hK] at *
      refine ⟨congrArg (fun z => some (Value.int z)) ?_, rfl, ?_, rfl⟩
      · unfold huV; grind
      · unfold huN; (repeat' split) <;> first | (simp only [mnotes_app, mnotes, List.cons_append, List.nil_append]; done) | (exfalso; grind)
  · refine iX12_hushing_10 (iX12_hushing_11 (iX12_hushing_13 (s_X12_ran _ hc (by omega)) (iX12_hushing_16 (iX12_hushing_17 (iX12_hushing_18 (iX12_hushing_19 (s_X12_nurseHushes _ _ (mnotes_3 [60] I c hc) (by simp only [List.length_cons, List.length_nil]; omega)) (iX12_hushing_22 (iX12_hushing_23 (iX12_hushing_24 (iX12_hushing_25 (iX12_hushing_26 ?_)))))))))))
    have e3 := mnotes_3 [40, 11] (mnotes I [60]) (c + 1) (mnotes_3 [60] I c hc)
    refine iX12_hushing_27 (s_X12_reading _ _ K e3 (by simp only [List.length_cons, List.length_nil]; omega) hb (by rw [mnotes_row (by omega), mnotes_row (by omega)]; exact hK)) (iX12_hushing_30 (iX12_hushing_31 ?_))
    rw [hK] at *
    refine ⟨congrArg (fun z => some (Value.int z)) ?_, rfl, ?_, rfl⟩
    · unfold huV; grind
    · unfold huN; (repeat' split) <;> first | (simp only [mnotes_app, mnotes, List.cons_append, List.nil_append]; done) | (exfalso; grind)
def crV (K b x : Int32) : Int32 := if f_underM K 3 = 0 then (if K = 7 then rdV K b x * 2 + huV K b 2 else if K = 2 then -(rdV K b x * 2) else rdV K b x * 2) else -(rdV K b (x + 1) * 2)
def crN (K : Int32) : List Int32 := if f_underM K 3 = 0 then (if K = 7 then 80 :: 10 :: (rdN K ++ huN K) else if K = 2 then 30 :: 10 :: rdN K else 10 :: rdN K) else 41 :: 30 :: 10 :: rdN K
theorem s_X12_crying (b x K : Int32) {c : Nat} (hc : I 57 47 = nI c) (h : c ≤ 400) (hb : vp_in b 50) (hK : I 85 b.toNatClampNeg = K) : SpecF 6 M_X12_crying [.ref 57, .int b, .int x] xG1 I J (some (.int (crV K b x))) (mnotes I (crN K)) J := by
  refine specF_of (L := [some (.ref 57), some (.int b), some (.int x), none]) (by decide) (Nat.le_of_ble_eq_true rfl) rfl ?_
  have hrl := rdN_len K
  refine iX12_crying_0 (iX12_crying_1 (iX12_crying_4 (iX12_crying_5 hb (iX12_crying_6 (iX12_crying_7 (s_X12_isUnder _ _) (iX12_crying_10 (fun h10 => ?_) (fun h10 => ?_)))))))
  · refine iX12_crying_28 (iX12_crying_29 (iX12_crying_32 (iX12_crying_33 hb (iX12_crying_34 (iX12_crying_36 (fun h36 => ?_) (fun h36 => ?_))))))
    · refine iX12_crying_61 (iX12_crying_62 (iX12_crying_65 (iX12_crying_66 hb (iX12_crying_67 (iX12_crying_68 (fun h68 => ?_) (fun h68 => ?_))))))
      · refine iX12_crying_80 (iX12_crying_81 (iX12_crying_82 (iX12_crying_83 (s_X12_plainCries _ _ K hc (by omega) hb hK) (iX12_crying_86 ?_))))
        rw [hK] at *
        refine ⟨congrArg (fun z => some (Value.int z)) ?_, rfl, ?_, rfl⟩
        · unfold crV; grind
        · unfold crN; (repeat' split) <;> first | (simp only [mnotes_app, mnotes, List.cons_append, List.nil_append]; done) | (exfalso; grind)
      · refine iX12_crying_71 (iX12_crying_72 (iX12_crying_73 (iX12_crying_74 (s_X12_cryCries _ _ K hc (by omega) hb hK) (iX12_crying_77 (iX12_crying_86 ?_)))))
        rw [hK] at *
        refine ⟨congrArg (fun z => some (Value.int z)) ?_, rfl, ?_, rfl⟩
        · unfold crV; grind
        · unfold crN; (repeat' split) <;> first | (simp only [mnotes_app, mnotes, List.cons_append, List.nil_append]; done) | (exfalso; grind)
    · refine iX12_crying_39 (iX12_crying_40 (iX12_crying_42 (s_X12_ran _ hc (by omega)) (iX12_crying_45 (iX12_crying_46 (iX12_crying_47 (iX12_crying_48 (s_X12_plainCries _ _ K (mnotes_3 [80] I c hc) (by simp only [List.length_cons, List.length_nil]; omega) hb (by rw [mnotes_row (by omega)]; exact hK)) (iX12_crying_51 (iX12_crying_52 (iX12_crying_53 (iX12_crying_54 (iX12_crying_55 ?_)))))))))))
      have e3 := mnotes_3 (10 :: rdN K) (mnotes I [80]) (c + 1) (mnotes_3 [80] I c hc)
      refine iX12_crying_56 (s_X12_hushing _ _ K e3 (by simp only [List.length_cons]; omega) hb (by rw [mnotes_row (by omega), mnotes_row (by omega)]; exact hK)) (iX12_crying_59 (iX12_crying_60 ?_))
      rw [hK] at *
      refine ⟨congrArg (fun z => some (Value.int z)) ?_, rfl, ?_, rfl⟩
      · unfold crV; grind
      · unfold crN; (repeat' split) <;> first | (simp only [mnotes_app, mnotes, List.cons_append, List.nil_append]; done) | (exfalso; grind)
  · refine iX12_crying_13 (iX12_crying_14 (iX12_crying_16 (s_X12_ran _ hc (by omega)) (iX12_crying_19 (iX12_crying_20 (iX12_crying_21 (iX12_crying_22 (iX12_crying_23 (iX12_crying_24 (s_X12_cryCries _ _ K (mnotes_3 [41] I c hc) (by simp only [List.length_cons, List.length_nil]; omega) hb (by rw [mnotes_row (by omega)]; exact hK)) (iX12_crying_27 ?_)))))))))
    rw [hK] at *
    refine ⟨congrArg (fun z => some (Value.int z)) ?_, rfl, ?_, rfl⟩
    · unfold crV; grind
    · unfold crN; (repeat' split) <;> first | (simp only [mnotes_app, mnotes, List.cons_append, List.nil_append]; done) | (exfalso; grind)
theorem crN_len (K : Int32) : (crN K).length ≤ 20 := by
  have h1 := rdN_len K
  have h2 : (huN K).length ≤ 6 := by
    unfold huN
    split
    · simp only [List.length_append, List.length_cons, List.length_nil]; omega
    · split <;> decide
  unfold crN
  split
  · split
    · simp only [List.length_append, List.length_cons]; omega
    · split <;> simp only [List.length_cons] <;> omega
  · simp only [List.length_cons]; omega
theorem s_X12_plainTells (b x K : Int32) {c : Nat} (hc : I 57 47 = nI c) (h : c ≤ 300) (hb : vp_in b 50) (hK : I 85 b.toNatClampNeg = K) : SpecF 7 M_X12_plainTells [.ref 57, .int b, .int x] xG1 I J (some (.int (crV K b x - huV K b 1))) (mnotes I (2 :: (crN K ++ huN K))) J := by
  refine specF_of (L := [some (.ref 57), some (.int b), some (.int x), none]) (by decide) (Nat.le_of_ble_eq_true rfl) rfl ?_
  have hrl := crN_len K
  refine iX12_plainTells_0 (iX12_plainTells_1 (iX12_plainTells_2 (s_X12_ran _ hc (by omega)) (iX12_plainTells_5 (iX12_plainTells_6 (iX12_plainTells_7 (iX12_plainTells_8 (s_X12_crying _ _ K (mnotes_3 [2] I c hc) (by simp only [List.length_cons, List.length_nil]; omega) hb (by rw [mnotes_row (by omega)]; exact hK)) (iX12_plainTells_11 (iX12_plainTells_12 (iX12_plainTells_13 (iX12_plainTells_14 (iX12_plainTells_15 ?_)))))))))))
  have e3 := mnotes_3 (crN K) (mnotes I [2]) (c + 1) (mnotes_3 [2] I c hc)
  refine iX12_plainTells_16 (s_X12_hushing _ _ K e3 (by omega) hb (by rw [mnotes_row (by omega), mnotes_row (by omega)]; exact hK)) (iX12_plainTells_19 (iX12_plainTells_20 ?_))
  exact ⟨rfl, rfl, (by simp [mnotes, mnotes_app]), rfl⟩
def teV (K b x : Int32) : Int32 := if K = 4 then (crV K b x - huV K b 1) ^^^ 5 else if K = 5 then (crV K b x - huV K b 1) + 1 else crV K b x - huV K b 1
def teN (K : Int32) : List Int32 := if K = 4 then 50 :: 2 :: (crN K ++ huN K) else if K = 5 then 61 :: 2 :: (crN K ++ huN K) else 2 :: (crN K ++ huN K)
theorem s_X12_telling (b x K : Int32) {c : Nat} (hc : I 57 47 = nI c) (h : c ≤ 200) (hb : vp_in b 50) (hK : I 85 b.toNatClampNeg = K) : SpecF 8 M_X12_telling [.ref 57, .int b, .int x] xG1 I J (some (.int (teV K b x))) (mnotes I (teN K)) J := by
  refine specF_of (L := [some (.ref 57), some (.int b), some (.int x)]) (by decide) (Nat.le_of_ble_eq_true rfl) rfl ?_
  refine iX12_telling_0 (iX12_telling_1 (iX12_telling_4 (iX12_telling_5 hb (iX12_telling_6 (iX12_telling_7 (fun h7 => ?_) (fun h7 => ?_))))))
  · refine iX12_telling_25 (iX12_telling_26 (iX12_telling_29 (iX12_telling_30 hb (iX12_telling_31 (iX12_telling_32 (fun h32 => ?_) (fun h32 => ?_))))))
    · refine iX12_telling_50 (iX12_telling_51 (iX12_telling_52 (iX12_telling_53 (s_X12_plainTells _ _ K hc (by omega) hb hK) (iX12_telling_56 ?_))))
      rw [hK] at *
      refine ⟨congrArg (fun z => some (Value.int z)) ?_, rfl, ?_, rfl⟩
      · unfold teV; grind
      · unfold teN; (repeat' split) <;> first | (simp only [mnotes_app, mnotes, List.cons_append, List.nil_append]; done) | (exfalso; grind)
    · refine iX12_telling_35 (iX12_telling_36 (iX12_telling_38 (s_X12_ran _ hc (by omega)) (iX12_telling_41 (iX12_telling_42 (iX12_telling_43 (iX12_telling_44 (s_X12_plainTells _ _ K (mnotes_3 [61] I c hc) (by simp only [List.length_cons, List.length_nil]; omega) hb (by rw [mnotes_row (by omega)]; exact hK)) (iX12_telling_47 (iX12_telling_48 (iX12_telling_49 ?_)))))))))
      rw [hK] at *
      refine ⟨congrArg (fun z => some (Value.int z)) ?_, rfl, ?_, rfl⟩
      · unfold teV; grind
      · unfold teN; (repeat' split) <;> first | (simp only [mnotes_app, mnotes, List.cons_append, List.nil_append]; done) | (exfalso; grind)
  · refine iX12_telling_10 (iX12_telling_11 (iX12_telling_13 (s_X12_ran _ hc (by omega)) (iX12_telling_16 (iX12_telling_17 (iX12_telling_18 (iX12_telling_19 (s_X12_plainTells _ _ K (mnotes_3 [50] I c hc) (by simp only [List.length_cons, List.length_nil]; omega) hb (by rw [mnotes_row (by omega)]; exact hK)) (iX12_telling_22 (iX12_telling_23 (iX12_telling_24 ?_)))))))))
    rw [hK] at *
    refine ⟨congrArg (fun z => some (Value.int z)) ?_, rfl, ?_, rfl⟩
    · unfold teV; grind
    · unfold teN; (repeat' split) <;> first | (simp only [mnotes_app, mnotes, List.cons_append, List.nil_append]; done) | (exfalso; grind)
def actV (K b a x : Int32) : Int32 := if a = 0 then rdV K b x else if a = 1 then crV K b x else if a = 2 then huV K b x else teV K b x
def actN (K a : Int32) : List Int32 := if a = 0 then rdN K else if a = 1 then crN K else if a = 2 then huN K else teN K
theorem act_eq (b x : Int32) : ∀ k : Nat, k < 8 → ∀ a : Nat, a < 4 → runF b (nI k) 41 (nI k) (nI a) x = (actV (nI k) b (nI a) x, actN (nI k) (nI a)) := by
  intro k hk a ha
  have hk8 : k = 0 ∨ k = 1 ∨ k = 2 ∨ k = 3 ∨ k = 4 ∨ k = 5 ∨ k = 6 ∨ k = 7 := by omega
  have ha4 : a = 0 ∨ a = 1 ∨ a = 2 ∨ a = 3 := by omega
  rcases hk8 with rfl | rfl | rfl | rfl | rfl | rfl | rfl | rfl <;> rcases ha4 with rfl | rfl | rfl | rfl <;> rfl
theorem actN_len : ∀ k : Nat, k < 8 → ∀ a : Nat, a < 4 → (actN (nI k) (nI a)).length ≤ 100 := by decide +kernel
end
/-! the pair -/
def clc (a b : Nat) : Bool := [43, 86].contains a || (a == 41 && [3, 4, 5].contains b) || (a == 57 && b == 47)
theorem inv_cl_frame {I F : xI} {J : xJ} (h : Inv I J) (f : ∀ a b, clc a b = false → F a b = I a b) (hi : ivCl F) : Inv F J := by
  obtain ⟨hh, hb, hse, hin, hch, hta, hle, him, hcl, hsh, hlw⟩ := h
  have row : ∀ a, (∀ b, clc a b = false) → F a = I a := fun a q => funext fun b => f a b (q b)
  have p1 := f 57 1 rfl; have p2 := f 57 6 rfl; have p3 := f 57 10 rfl; have p4 := f 57 11 rfl; have p5 := f 57 17 rfl; have p6 := f 57 29 rfl; have p7 := f 57 42 rfl
  refine ⟨?_, ?_, ?_, ?_, ?_, ?_, ?_, ?_, hi, ?_, ?_⟩
  · unfold ivHouse at hh ⊢; rw [p1, p2, row 1 (fun _ => rfl)]; exact hh
  · unfold ivBills at hb ⊢; rw [row 58 (fun _ => rfl), row 59 (fun _ => rfl), row 60 (fun _ => rfl), row 61 (fun _ => rfl), row 7 (fun _ => rfl), row 8 (fun _ => rfl), row 9 (fun _ => rfl), row 10 (fun _ => rfl)]; exact hb
  · unfold ivSens at hse ⊢; rw [row 62 (fun _ => rfl), row 63 (fun _ => rfl), row 11 (fun _ => rfl), row 12 (fun _ => rfl)]; exact hse
  · unfold ivInf at hin ⊢; rw [row 64 (fun _ => rfl), row 13 (fun _ => rfl), row 14 (fun _ => rfl), row 15 (fun _ => rfl), row 16 (fun _ => rfl)]; exact hin
  · refine ivChg_frame hch ⟨row 20 (fun _ => rfl), row 21 (fun _ => rfl), row 22 (fun _ => rfl), row 23 (fun _ => rfl), row 24 (fun _ => rfl), row 65 (fun _ => rfl), row 66 (fun _ => rfl), row 67 (fun _ => rfl), row 68 (fun _ => rfl)⟩ p3 p4 ?_ ?_ <;> rw [row 1 (fun _ => rfl)] <;> exact Int32.le_refl _
  · unfold ivTape at hta ⊢; rw [p5, row 17 (fun _ => rfl), row 18 (fun _ => rfl), row 69 (fun _ => rfl)]; exact hta
  · unfold ivLed at hle ⊢; rw [row 82 (fun _ => rfl), row 38 (fun _ => rfl)]; exact hle
  · unfold ivImg at him ⊢; rw [p7, row 37 (fun _ => rfl), row 83 (fun _ => rfl), row 84 (fun _ => rfl), row 39 (fun _ => rfl), row 40 (fun _ => rfl)]; exact him
  · refine ivSh_frame hsh (fun s hs => ?_) (row 87 (fun _ => rfl)) (row 88 (fun _ => rfl)) (by rw [f 41 2 rfl]; exact Int32.le_refl _) (fun _ _ => rfl) rfl
    have : s = 0 ∨ s = 1 ∨ s = 2 ∨ s = 3 ∨ s = 4 ∨ s = 5 := by omega
    rcases this with rfl | rfl | rfl | rfl | rfl | rfl <;> exact row _ (fun _ => rfl)
  · exact ivLaw_frame hlw ⟨f 2 3 rfl, row 3 (fun _ => rfl), p6, row 70 (fun _ => rfl), row 71 (fun _ => rfl), f 72 0 rfl, row 73 (fun _ => rfl), row 74 (fun _ => rfl)⟩
theorem cnote_row {I : xI} {v : Int32} {a b : Nat} (h : ¬ (a = 43 ∨ a = 41 ∧ b = 3)) : cnote I v a b = I a b := by
  unfold cnote
  split <;> simp only [xu] <;> grind
theorem cnotes_row {a b : Nat} (h : ¬ (a = 43 ∨ a = 41 ∧ b = 3)) : ∀ (xs : List Int32) (I : xI), cnotes I xs a b = I a b
  | [], _ => rfl
  | x :: xs, I => by simp only [cnotes]; rw [cnotes_row h xs, cnote_row h]
theorem cnote_at {I : xI} {v : Int32} {c k : Nat} (hc : I 41 3 = nI c) (h : c ≤ 1000) (hk : k < 24) : cnote I v 43 k = if k = c then v else I 43 k := by
  have e : (I 41 3).toNatClampNeg = c := by rw [hc]; exact nI_clamp (by omega)
  have e2 : I 41 3 < 24 ↔ c < 24 := by rw [hc]; exact nI_ltI (b := 24) (by omega) (by omega)
  unfold cnote
  rw [xu_row (by decide), e]
  split <;> (try simp only [xu]) <;> grind
theorem mnote_at {I : xI} {v : Int32} {c k : Nat} (hc : I 57 47 = nI c) (h : c ≤ 1000) (hk : k < 24) : mnote I v 86 k = if k = c then v else I 86 k := by
  have e : (I 57 47).toNatClampNeg = c := by rw [hc]; exact nI_clamp (by omega)
  have e2 : I 57 47 < 24 ↔ c < 24 := by rw [hc]; exact nI_ltI (b := 24) (by omega) (by omega)
  unfold mnote
  rw [xu_row (by decide), e]
  split <;> (try simp only [xu]) <;> grind
theorem notes_eq : ∀ (xs : List Int32) (I M : xI) (c : Nat), I 41 3 = nI c → M 57 47 = nI c → c + xs.length ≤ 1000 → (∀ k : Nat, k < 24 → k < c → M 86 k = I 43 k) → ∀ k : Nat, k < 24 → k < c + xs.length → mnotes M xs 86 k = cnotes I xs 43 k
  | [], _, _, _, _, _, _, h, k, hk, hk2 => h k hk hk2
  | x :: xs, I, M, c, h1, h2, hl, h, k, hk, hk2 => by
    simp only [List.length_cons] at hl hk2
    refine notes_eq xs (cnote I x) (mnote M x) (c + 1) (by show I 41 3 + 1 = _; rw [h1]; exact nI_1 c) (by show M 57 47 + 1 = _; rw [h2]; exact nI_1 c) (by omega) (fun j hj hj2 => ?_) k hk (by omega)
    rw [cnote_at h1 (by omega) hj, mnote_at h2 (by omega) hj]
    by_cases q : j = c
    · rw [if_pos q, if_pos q]
    · rw [if_neg q, if_neg q]; exact h j hj (by omega)
theorem pp_act : PP_act Inv := by
  intro I J h b a x
  obtain ⟨hh, hb, hse, hin, hch, hta, hle, him, hcl, hsh, hlw⟩ := id h
  obtain ⟨c1, c2, c3, c4, c5, c6, c7, c8⟩ := id hcl
  by_cases hbad : f_has3 I b = 0 ∨ a < 0 ∨ 3 < a
  · have sp : ∀ J, SpecF 100 M_X3_perform [.ref 41, .int b, .int a, .int x] xG1 I J (some (.int 0)) (xu I 41 3 0) J := by
      intro J
      refine specF_of (L := [some (.ref 41), some (.int b), some (.int a), some (.int x)]) (by decide) (Nat.le_of_ble_eq_true rfl) rfl ?_
      have sh := s_X3_has (I := xu I 41 3 0) (J := J) b
      rw [show f_has3 (xu I 41 3 0) b = f_has3 I b from rfl] at sh
      refine iX3_perform_0 (iX3_perform_1 (iX3_perform_2 (iX3_perform_5 (iX3_perform_6 (iX3_perform_7 sh (iX3_perform_10 (fun h10 => ?_) (fun h10 => ?_)))))))
      · refine iX3_perform_22 (iX3_perform_23 ?_)
        exact ⟨rfl, rfl, rfl, rfl⟩
      · refine iX3_perform_13 (iX3_perform_14 (fun h14 => ?_) (fun h14 => ?_))
        · refine iX3_perform_22 (iX3_perform_23 ?_)
          exact ⟨rfl, rfl, rfl, rfl⟩
        · refine iX3_perform_17 (iX3_perform_18 (iX3_perform_19 (fun h19 => ?_) (fun h19 => ?_)))
          · exfalso
            grind
          · refine iX3_perform_22 (iX3_perform_23 ?_)
            exact ⟨rfl, rfl, rfl, rfl⟩
    refine pair_of (v := 0) (v' := 0) (I1 := xu I 41 3 0) (I2 := xu (xu I 41 3 0) 57 47 0) (J1 := J) (J2 := J) ?_ ?_ rfl ?_
    · refine specF_of (L := [some (.ref 0), some (.int b), some (.int a), some (.int x)]) (by decide) (Nat.le_of_ble_eq_true rfl) rfl ?_
      refine iX11_act_0 (iX11_act_1 (iX11_act_4 (iX11_act_5 (iX11_act_6 (iX11_act_7 (sp _) (iX11_act_10 ?_))))))
      first | exact ⟨rfl, rfl, rfl, rfl⟩ | (exfalso; (try simp only [f_in] at *); grind)
    · refine specF_of (L := [some (.ref 57), some (.int b), some (.int a), some (.int x)]) (by decide) (Nat.le_of_ble_eq_true rfl) rfl ?_
      have e45 : (xu (xu I 41 3 0) 57 47 0) 57 45 = I 41 2 := c1
      refine iX12_act_0 (iX12_act_1 (iX12_act_2 (iX12_act_5 (iX12_act_6 (iX12_act_7 (s_X12_isBody _) (iX12_act_10 (fun h10 => ?_) (fun h10 => ?_)))))))
      · refine iX12_act_22 (iX12_act_23 ?_)
        first | exact ⟨rfl, rfl, rfl, rfl⟩ | (exfalso; (try simp only [f_in] at *); grind)
      · refine iX12_act_13 (iX12_act_14 (iX12_act_15 (iX12_act_16 (s_X12_in _ _ _) (iX12_act_19 (fun h19 => ?_) (fun h19 => ?_)))))
        · exfalso
          simp only [f_in, f_has3] at *
          grind
        · refine iX12_act_22 (iX12_act_23 ?_)
          first | exact ⟨rfl, rfl, rfl, rfl⟩ | (exfalso; (try simp only [f_in] at *); grind)
    refine inv_cl_frame h (fun p q hpq => ?_) ?_
    · simp only [clc, List.contains_cons, List.contains_nil, Bool.or_eq_false_iff, beq_eq_false_iff_ne, Bool.and_eq_false_iff] at hpq
      simp only [xu]
      grind
    · refine ⟨c1, c2, c3, c4, rfl, (by decide : (0 : Int32) ≤ 0), (by decide : (0 : Int32) ≤ 1000), fun k hk hk2 => ?_⟩
      exact absurd hk2 (nI_pos (by omega))
  have h3 : f_has3 I b = 1 := by unfold f_has3 at hbad ⊢; grind
  have hbi : 0 ≤ b ∧ b < 50 := by unfold f_has3 at h3; grind
  have hvb : vp_in b 50 := vin 50 (by decide) (by grind) hbi.2
  have hk := clamp_lt' (x := b) (N := 50) (n := 50) (by decide) hbi.1 hbi.2
  obtain ⟨d1, d2, d3⟩ := c4 _ hk
  obtain ⟨K, hK, eK⟩ := nI_of2 (x := I 42 b.toNatClampNeg) (M := 7) (n := 7) (by decide) (by grind) d3
  obtain ⟨a', ha, rfl⟩ := nI_of2 (x := a) (M := 3) (n := 3) (by decide) (by grind) (by grind)
  have hact := act_eq b x K (by omega) a' (by omega)
  have hlen := actN_len K (by omega) a' (by omega)
  let S := xu (xu (xu I 41 3 0) 41 4 b) 41 5 (nI K)
  have a0 : 0 ≤ nI a' := nI_pos' (by omega)
  have a4 : nI a' < 4 := nI_lt (b := 4) (by omega) (by omega)
  have sr : ∀ J, SpecF 43 M_X3_run [.ref 41, .int (nI K), .int (nI a'), .int x, .int (nI 0)] xG1 S J (some (.int (actV (nI K) b (nI a') x))) (cnotes S (actN (nI K) (nI a'))) J := by
    intro J
    have := s_X3_run b (nI K) 41 (nI K) (nI a') x S J 0 (by omega) a0 a4 rfl (by rw [hact]; simp only; omega) rfl rfl
    rw [hact] at this
    exact this
  have sp : ∀ J, SpecF 100 M_X3_perform [.ref 41, .int b, .int (nI a'), .int x] xG1 I J (some (.int (actV (nI K) b (nI a') x))) (cnotes S (actN (nI K) (nI a'))) J := by
    intro J
    refine specF_of (L := [some (.ref 41), some (.int b), some (.int (nI a')), some (.int x)]) (by decide) (Nat.le_of_ble_eq_true rfl) rfl ?_
    have sh := s_X3_has (I := xu I 41 3 0) (J := J) b
    rw [show f_has3 (xu I 41 3 0) b = 1 from h3] at sh
    have n14 : ¬ nI a' < 0 := by grind
    refine iX3_perform_0 (iX3_perform_1 (iX3_perform_2 (iX3_perform_5 (iX3_perform_6 (iX3_perform_7 sh (iX3_perform_10 (fun h10 => absurd h10 (by decide)) (fun h10 => ?_)))))))
    refine iX3_perform_13 (iX3_perform_14 (fun h14 => absurd h14 (n14)) (fun h14 => ?_))
    refine iX3_perform_17 (iX3_perform_18 (iX3_perform_19 (fun h19 => ?_) (fun h19 => absurd (a4) (by first | exact h19 | exact fun q => q h19))))
    refine iX3_perform_24 (iX3_perform_25 (iX3_perform_26 (iX3_perform_29 (iX3_perform_30 (iX3_perform_31 (iX3_perform_34 (iX3_perform_35 hvb ?_)))))))
    show WP _ _ _ _ _ 36 _ [.int (I 42 b.toNatClampNeg), .ref 41] _ _ _
    rw [eK]
    refine iX3_perform_36 (iX3_perform_39 (iX3_perform_40 (iX3_perform_41 (iX3_perform_44 (iX3_perform_45 (iX3_perform_46 (iX3_perform_47 (sr _) (iX3_perform_50 ?_))))))))
    exact ⟨rfl, rfl, rfl, rfl⟩
  refine pair_of (v := actV (nI K) b (nI a') x) (v' := actV (nI K) b (nI a') x) (I1 := cnotes S (actN (nI K) (nI a'))) (I2 := mnotes (xu (cnotes S (actN (nI K) (nI a'))) 57 47 0) (actN (nI K) (nI a'))) (J1 := J) (J2 := J) ?_ ?_ rfl ?_
  · refine specF_of (L := [some (.ref 0), some (.int b), some (.int (nI a')), some (.int x)]) (by decide) (Nat.le_of_ble_eq_true rfl) rfl ?_
    refine iX11_act_0 (iX11_act_1 (iX11_act_4 (iX11_act_5 (iX11_act_6 (iX11_act_7 (sp _) (iX11_act_10 ?_))))))
    first | exact ⟨rfl, rfl, rfl, rfl⟩ | (exfalso; (try simp only [f_in] at *); grind)
  · refine specF_of (L := [some (.ref 57), some (.int b), some (.int (nI a')), some (.int x)]) (by decide) (Nat.le_of_ble_eq_true rfl) rfl ?_
    have eB : f_in b 0 (cnotes S (actN (nI K) (nI a')) 57 45 - 1) = 1 := by rw [cnotes_row (by decide)]; show f_in b 0 (I 57 45 - 1) = 1; rw [c1]; unfold f_has3 at h3; unfold f_in; grind
    have nB : ¬ f_in b 0 (cnotes S (actN (nI K) (nI a')) 57 45 - 1) = 0 := by rw [eB]; decide
    have e85 : (xu (cnotes S (actN (nI K) (nI a'))) 57 47 0) 85 b.toNatClampNeg = nI K := by rw [xu_row (by decide), cnotes_row (by omega)]; show I 85 b.toNatClampNeg = nI K; rw [d1, eK]
    have n19 : ¬ f_in (nI a') 0 3 = 0 := by rw [f_in_1 a0 (by grind)]; decide
    have z0 : (xu (cnotes S (actN (nI K) (nI a'))) 57 47 0) 57 47 = nI 0 := rfl
    refine iX12_act_0 (iX12_act_1 (iX12_act_2 (iX12_act_5 (iX12_act_6 (iX12_act_7 (s_X12_isBody _) (iX12_act_10 (fun h10 => absurd h10 (nB)) (fun h10 => ?_)))))))
    refine iX12_act_13 (iX12_act_14 (iX12_act_15 (iX12_act_16 (s_X12_in _ _ _) (iX12_act_19 (fun h19 => ?_) (fun h19 => absurd (n19) (by first | exact h19 | exact fun q => q h19))))))
    refine iX12_act_24 (iX12_act_25 (fun h25 => ?_) (fun h25 => ?_))
    · refine iX12_act_37 (iX12_act_38 (iX12_act_39 (fun h39 => ?_) (fun h39 => ?_)))
      · refine iX12_act_51 (iX12_act_52 (iX12_act_53 (fun h53 => ?_) (fun h53 => ?_)))
        · refine iX12_act_65 (iX12_act_66 (iX12_act_67 (iX12_act_68 (s_X12_telling _ _ (nI K) z0 (by omega) hvb e85) (iX12_act_71 ?_))))
          refine ⟨congrArg (fun z => some (Value.int z)) ?_, rfl, ?_, rfl⟩
          · unfold actV; repeat (first | rw [if_pos (by assumption)] | rw [if_neg (by first | assumption | exact fun q => absurd q (by assumption))])
          · unfold actN; repeat (first | rw [if_pos (by assumption)] | rw [if_neg (by first | assumption | exact fun q => absurd q (by assumption))])
        · refine iX12_act_56 (iX12_act_57 (iX12_act_58 (iX12_act_59 (s_X12_hushing _ _ (nI K) z0 (by omega) hvb e85) (iX12_act_62 (iX12_act_71 ?_)))))
          refine ⟨congrArg (fun z => some (Value.int z)) ?_, rfl, ?_, rfl⟩
          · unfold actV; repeat (first | rw [if_pos (by assumption)] | rw [if_neg (by first | assumption | exact fun q => absurd q (by assumption))])
          · unfold actN; repeat (first | rw [if_pos (by assumption)] | rw [if_neg (by first | assumption | exact fun q => absurd q (by assumption))])
      · refine iX12_act_42 (iX12_act_43 (iX12_act_44 (iX12_act_45 (s_X12_crying _ _ (nI K) z0 (by omega) hvb e85) (iX12_act_48 (iX12_act_71 ?_)))))
        refine ⟨congrArg (fun z => some (Value.int z)) ?_, rfl, ?_, rfl⟩
        · unfold actV; repeat (first | rw [if_pos (by assumption)] | rw [if_neg (by first | assumption | exact fun q => absurd q (by assumption))])
        · unfold actN; repeat (first | rw [if_pos (by assumption)] | rw [if_neg (by first | assumption | exact fun q => absurd q (by assumption))])
    · refine iX12_act_28 (iX12_act_29 (iX12_act_30 (iX12_act_31 (s_X12_reading _ _ (nI K) z0 (by omega) hvb e85) (iX12_act_34 (iX12_act_71 ?_)))))
      refine ⟨congrArg (fun z => some (Value.int z)) ?_, rfl, ?_, rfl⟩
      · unfold actV; repeat (first | rw [if_pos (by assumption)] | rw [if_neg (by first | assumption | exact fun q => absurd q (by assumption))])
      · unfold actN; repeat (first | rw [if_pos (by assumption)] | rw [if_neg (by first | assumption | exact fun q => absurd q (by assumption))])
  generalize actN (nI K) (nI a') = ns at hlen
  refine inv_cl_frame h (fun p q hpq => ?_) ?_
  · simp only [clc, List.contains_cons, List.contains_nil, Bool.or_eq_false_iff, beq_eq_false_iff_ne, Bool.and_eq_false_iff] at hpq
    rw [mnotes_row (by grind), show xu (cnotes S ns) 57 47 0 p q = cnotes S ns p q by simp only [xu]; grind, cnotes_row (by grind)]
    simp only [S, xu]
    grind
  · have g : ∀ p q, ¬ (p = 86 ∨ p = 57 ∧ q = 47) → ¬ (p = 43 ∨ p = 41 ∧ q = 3) → mnotes (xu (cnotes S ns) 57 47 0) ns p q = S p q := fun p q w1 w2 => by
      rw [mnotes_row w1, show xu (cnotes S ns) 57 47 0 p q = cnotes S ns p q by simp only [xu]; grind, cnotes_row w2]
    have e3 : cnotes S ns 41 3 = nI ns.length := by rw [cnotes_3 ns S 0 rfl, Nat.zero_add]
    have e47 : mnotes (xu (cnotes S ns) 57 47 0) ns 57 47 = nI ns.length := by rw [mnotes_3 ns _ 0 rfl, Nat.zero_add]
    have e3' : mnotes (xu (cnotes S ns) 57 47 0) ns 41 3 = nI ns.length := by rw [mnotes_row (by decide), xu_row (by decide), e3]
    unfold ivCl
    rw [e47, e3', g 57 45 (by decide) (by decide), g 41 2 (by decide) (by decide)]
    refine ⟨c1, c2, c3, fun k hk => ?_, rfl, nI_pos' (by omega), nI_le (b := 1000) (by omega) (by omega), fun k hk hk2 => ?_⟩
    · rw [g 85 k (by omega) (by omega), g 42 k (by omega) (by omega)]
      exact c4 k hk
    · have hk3 : k < ns.length := (nI_ltI (by omega) (by omega)).mp hk2
      have := notes_eq ns S (xu (cnotes S ns) 57 47 0) 0 rfl rfl (by omega) (fun j _ hj => absurd hj (by omega)) k hk (by omega)
      rw [this, mnotes_row (by omega), xu_row (by decide)]
