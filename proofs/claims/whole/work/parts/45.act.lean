/-! ===== act: the class runs its clauses ===== -/
def holdF : Nat → Int32 → Int32 → Int32
  | 0, _, _ => -1
  | n + 1, k, a => if f_in k 0 7 = 0 then -1 else if ¬ (xTB 3).getD (4 * k + a).toNatClampNeg 0 = 0 then k else holdF n ((xTB 2).getD k.toNatClampNeg 0) a
theorem holdF_in : ∀ (n : Nat) (k a : Int32), holdF n k a < 0 ∨ 0 ≤ holdF n k a ∧ holdF n k a ≤ 7
  | 0, _, _ => Or.inl (show (-1 : Int32) < 0 by decide)
  | n + 1, k, a => by
    simp only [holdF]
    by_cases h : f_in k 0 7 = 0
    · rw [if_pos h]; exact Or.inl (by decide)
    rw [if_neg h]
    by_cases q : ¬ (xTB 3).getD (4 * k + a).toNatClampNeg 0 = 0
    · rw [if_pos q]; exact Or.inr (f_in_p h)
    rw [if_neg q]
    exact holdF_in n _ a
theorem ix32 {k a : Int32} (h0 : 0 ≤ k) (h1 : k ≤ 7) (a0 : 0 ≤ a) (a1 : a < 4) : vp_in (4 * k + a) 32 := by
  obtain ⟨k', hk, rfl⟩ := nI_of2 (M := 7) (n := 7) (by decide) (by grind) h1
  obtain ⟨a', ha, rfl⟩ := nI_of2 (x := a) (M := 3) (n := 3) (by decide) (by grind) (by grind)
  have : (4 : Int32) * nI k' = nI (4 * k') := pk_mul 4 k'
  rw [this, nI_add]
  exact vp_in_nI (by omega) (by omega)
def runF (b K : Int32) : Nat → Int32 → Int32 → Int32 → Int32 × List Int32
  | 0, _, _, _ => (0, [])
  | n + 1, f, a, x =>
    if holdF 8 f a < 0 then (0, []) else
    let body := (xTB 3).getD (4 * holdF 8 f a + a).toNatClampNeg 0
    if body = 1 then (x + b, 1 :: ([])) else
    if body = 2 then ((runF b K n K 1 x).1 - (runF b K n K 2 1).1, 2 :: ((runF b K n K 1 x).2 ++ (runF b K n K 2 1).2)) else
    if body = 10 then ((runF b K n K 0 x).1 * 2, 10 :: ((runF b K n K 0 x).2)) else
    if body = 11 then (x ^^^ b, 11 :: ([])) else
    if body = 20 then ((runF b K n ((xTB 2).getD (holdF 8 f a).toNatClampNeg 0) a x).1 + 3, 20 :: ((runF b K n ((xTB 2).getD (holdF 8 f a).toNatClampNeg 0) a x).2)) else
    if body = 30 then (-(runF b K n ((xTB 2).getD (holdF 8 f a).toNatClampNeg 0) a x).1, 30 :: ((runF b K n ((xTB 2).getD (holdF 8 f a).toNatClampNeg 0) a x).2)) else
    if body = 40 then ((runF b K n ((xTB 2).getD (holdF 8 f a).toNatClampNeg 0) a x).1 * 3, 40 :: ((runF b K n ((xTB 2).getD (holdF 8 f a).toNatClampNeg 0) a x).2)) else
    if body = 41 then ((runF b K n ((xTB 2).getD (holdF 8 f a).toNatClampNeg 0) a (x + 1)).1, 41 :: ((runF b K n ((xTB 2).getD (holdF 8 f a).toNatClampNeg 0) a (x + 1)).2)) else
    if body = 50 then ((runF b K n ((xTB 2).getD (holdF 8 f a).toNatClampNeg 0) a x).1 ^^^ 5, 50 :: ((runF b K n ((xTB 2).getD (holdF 8 f a).toNatClampNeg 0) a x).2)) else
    if body = 60 then ((runF b K n ((xTB 2).getD (holdF 8 f a).toNatClampNeg 0) a x).1 - (runF b K n K 0 2).1, 60 :: ((runF b K n ((xTB 2).getD (holdF 8 f a).toNatClampNeg 0) a x).2 ++ (runF b K n K 0 2).2)) else
    if body = 61 then ((runF b K n ((xTB 2).getD (holdF 8 f a).toNatClampNeg 0) a x).1 + 1, 61 :: ((runF b K n ((xTB 2).getD (holdF 8 f a).toNatClampNeg 0) a x).2)) else
    if body = 70 then ((runF b K n ((xTB 2).getD (holdF 8 f a).toNatClampNeg 0) a x).1 * 2, 70 :: ((runF b K n ((xTB 2).getD (holdF 8 f a).toNatClampNeg 0) a x).2)) else
    if body = 80 then ((runF b K n ((xTB 2).getD (holdF 8 f a).toNatClampNeg 0) a x).1 + (runF b K n K 2 2).1, 80 :: ((runF b K n ((xTB 2).getD (holdF 8 f a).toNatClampNeg 0) a x).2 ++ (runF b K n K 2 2).2)) else
    ((runF b K n ((xTB 2).getD (holdF 8 f a).toNatClampNeg 0) a x).1 - 1, body :: ((runF b K n ((xTB 2).getD (holdF 8 f a).toNatClampNeg 0) a x).2))
section
variable {I : xI} {J : xJ}
def cnote (I : xI) (v : Int32) : xI := xu (if I 41 3 < 24 then xu I 43 (I 41 3).toNatClampNeg v else I) 41 3 (I 41 3 + 1)
def cnotes (I : xI) : List Int32 → xI
  | [] => I
  | v :: vs => cnotes (cnote I v) vs
theorem cnotes_app : ∀ (xs ys : List Int32) (I : xI), cnotes I (xs ++ ys) = cnotes (cnotes I xs) ys
  | [], _, _ => rfl
  | x :: xs, ys, I => cnotes_app xs ys (cnote I x)
theorem cnote_45 {v : Int32} {j : Nat} (h : ¬ j = 3) : cnote I v 41 j = I 41 j := by
  unfold cnote
  split <;> simp only [xu] <;> grind
theorem cnotes_45 {j : Nat} (h : ¬ j = 3) : ∀ (xs : List Int32) (I : xI), cnotes I xs 41 j = I 41 j
  | [], _ => rfl
  | x :: xs, I => by simp only [cnotes]; rw [cnotes_45 h xs, cnote_45 h]
theorem cnotes_3 : ∀ (xs : List Int32) (I : xI) (c : Nat), I 41 3 = nI c → cnotes I xs 41 3 = nI (c + xs.length)
  | [], _, _, h => h
  | x :: xs, I, c, h => by
    simp only [cnotes]
    rw [cnotes_3 xs (cnote I x) (c + 1) (by show I 41 3 + 1 = _; rw [h]; exact nI_1 c)]
    congr 1
    simp only [List.length_cons]
    omega
theorem s_X3_note (v : Int32) {c : Nat} (hc : I 41 3 = nI c) (h : c ≤ 1000) : SpecF 0 M_X3_note [.ref 41, .int v] xG1 I J none (cnotes I [v]) J := by
  refine specF_of (L := [some (.ref 41), some (.int v)]) (by decide) (Nat.le_of_ble_eq_true rfl) rfl ?_
  have h0 : ¬ I 41 3 < 0 := by rw [hc]; exact nI_pos (by omega)
  refine iX3_note_0 (iX3_note_1 (iX3_note_4 (iX3_note_6 (fun h6 => ?_) (fun h6 => ?_))))
  · refine iX3_note_19 (iX3_note_20 (iX3_note_21 (iX3_note_24 (iX3_note_25 (iX3_note_26 (iX3_note_29 ?_))))))
    refine ⟨rfl, rfl, ?_, rfl⟩
    simp only [cnotes, cnote]
    first | rw [if_pos (by grind)]; rfl | rw [if_neg (by grind)]
  · refine iX3_note_9 (iX3_note_10 (iX3_note_13 (iX3_note_14 (iX3_note_17 (iX3_note_18 (vin 24 (by decide) h0 (by grind)) (iX3_note_19 (iX3_note_20 (iX3_note_21 (iX3_note_24 (iX3_note_25 (iX3_note_26 (iX3_note_29 ?_))))))))))))
    refine ⟨rfl, rfl, ?_, rfl⟩
    simp only [cnotes, cnote]
    first | rw [if_pos (by grind)]; rfl | rw [if_neg (by grind)]
theorem s_X3_holder (k a : Int32) (a0 : 0 ≤ a) (a1 : a < 4) : SpecF 1 M_X3_holder [.int k, .int a] xG1 I J (some (.int (holdF 8 k a))) I J := by
  refine specF_of (L := [some (.int k), some (.int a), none, none]) (by decide) (Nat.le_of_ble_eq_true rfl) rfl ?_
  have key : ∀ n i : Nat, ∀ c : Int32, i + n = 8 → WP 1 (1000000, 0, 0) none M_X3_holder (fun r2 g2 I2 J2 => r2 = some (.int (holdF n c a)) ∧ g2 = xG1 ∧ I2 = I ∧ J2 = J) 4 [some (.int k), some (.int a), some (.int c), some (.int (nI i))] [] xG1 I J := by
    intro n
    induction n with
    | zero =>
      intro i c hi
      obtain rfl : i = 8 := by omega
      refine iX3_holder_4 (iX3_holder_5 (iX3_holder_7 (fun h7 => ?_) (fun h7 => absurd (Int32.le_refl _) (by first | exact h7 | exact fun q => q h7))))
      refine iX3_holder_43 (iX3_holder_44 ?_)
      exact ⟨rfl, rfl, rfl, rfl⟩
    | succ n ih =>
      intro i c hi
      refine iX3_holder_4 (iX3_holder_5 (iX3_holder_7 (fun h7 => absurd h7 (nI_ge (b := 8) (a := i) (by omega) (by omega))) (fun h7 => ?_)))
      refine iX3_holder_10 (iX3_holder_11 (s_X3_isKind _) (iX3_holder_14 (fun h14 => ?_) (fun h14 => ?_)))
      · refine iX3_holder_43 (iX3_holder_44 ?_)
        exact ⟨congrArg (fun z => some (Value.int z)) (by simp only [holdF]; rw [if_pos ‹_›]), rfl, rfl, rfl⟩
      · have hcc := f_in_p ‹_›
        refine iX3_holder_17 (iX3_holder_20 (iX3_holder_21 (iX3_holder_22 (iX3_holder_23 (iX3_holder_24 (iX3_holder_25 (ix32 hcc.1 hcc.2 a0 a1) (iX3_holder_26 (fun h26 => ?_) (fun h26 => ?_))))))))
        · refine iX3_holder_31 (iX3_holder_34 (iX3_holder_35 (vin 8 (by decide) (by grind) (by grind)) (iX3_holder_36 (iX3_holder_37 (iX3_holder_40 ?_)))))
          have e1 : nI i + (1) = nI (i + 1) := nI_1 i
          rw [e1]
          have := ih (i + 1) ((xTB 2).getD c.toNatClampNeg 0) (by omega)
          rw [show holdF (n + 1) c a = holdF n ((xTB 2).getD c.toNatClampNeg 0) a by simp only [holdF]; rw [if_neg ‹_›, if_neg (fun q => q ‹_›)]]
          exact this
        · refine iX3_holder_29 (iX3_holder_30 ?_)
          exact ⟨congrArg (fun z => some (Value.int z)) (by simp only [holdF]; rw [if_neg ‹_›, if_pos ‹_›]), rfl, rfl, rfl⟩
  refine iX3_holder_0 (iX3_holder_1 (iX3_holder_2 (iX3_holder_3 ?_)))
  exact key 8 0 k (by omega)
theorem s_X3_run (b K : Int32) : ∀ (n : Nat) (f a x : Int32) (I : xI) (J : xJ) (c : Nat), n ≤ 41 → 0 ≤ a → a < 4 → I 41 3 = nI c → c + (runF b K n f a x).2.length ≤ 1000 → I 41 4 = b → I 41 5 = K → SpecF (n + 2) M_X3_run [.ref 41, .int f, .int a, .int x, .int (nI (41 - n))] xG1 I J (some (.int (runF b K n f a x).1)) (cnotes I (runF b K n f a x).2) J := by
  intro n
  induction n with
  | zero =>
    intro f a x I J c hn a0 a1 hc hlen h4 h5
    have n14 : ¬ nI 41 ≤ 40 := by decide
    refine specF_of (L := [some (.ref 41), some (.int f), some (.int a), some (.int x), some (.int (nI 41)), none, none, none, none]) (by decide) (Nat.le_of_ble_eq_true rfl) rfl ?_
    refine iX3_run_0 (iX3_run_1 (iX3_run_2 (s_X3_holder _ _ a0 a1) (iX3_run_5 (iX3_run_7 (iX3_run_9 (fun h9 => ?_) (fun h9 => ?_))))))
    · refine iX3_run_19 (iX3_run_20 ?_)
      exact ⟨rfl, rfl, rfl, rfl⟩
    · refine iX3_run_12 (iX3_run_14 (iX3_run_16 (fun h16 => absurd h16 (n14)) (fun h16 => ?_)))
      refine iX3_run_19 (iX3_run_20 ?_)
      exact ⟨rfl, rfl, rfl, rfl⟩
  | succ n ih =>
    intro f a x I J c hn a0 a1 hc hlen h4 h5
    refine specF_of (L := [some (.ref 41), some (.int f), some (.int a), some (.int x), some (.int (nI (41 - (n + 1)))), none, none, none, none]) (by decide) (Nat.le_of_ble_eq_true rfl) rfl ?_
    have ed : nI (41 - (n + 1)) + 1 = nI (41 - n) := by rw [nI_1]; congr 1; omega
    have n16 : nI (41 - (n + 1)) ≤ 40 := nI_le (b := 40) (by omega) (by omega)
    refine iX3_run_0 (iX3_run_1 (iX3_run_2 (s_X3_holder _ _ a0 a1) (hdd := by omega) (iX3_run_5 (iX3_run_7 (iX3_run_9 (fun h9 => ?_) (fun h9 => ?_))))))
    · refine iX3_run_19 (iX3_run_20 ?_)
      have hv : runF b K (n + 1) f a x = (0, []) := by simp only [runF]; rw [if_pos ‹_›]
      rw [hv]
      exact ⟨rfl, rfl, rfl, rfl⟩
    · refine iX3_run_12 (iX3_run_14 (iX3_run_16 (fun h16 => ?_) (fun h16 => absurd (n16) (by first | exact h16 | exact fun q => q h16))))
      have hk := (holdF_in 8 f a).resolve_left ‹_›
      have hu : runF b K (n + 1) f a x = _ := (show runF b K (n + 1) f a x = _ from rfl).trans (if_neg ‹_›)
      have hc1 : c ≤ 1000 := by omega
      refine iX3_run_21 (iX3_run_24 (iX3_run_25 (iX3_run_27 (iX3_run_28 (iX3_run_29 (iX3_run_30 (ix32 hk.1 hk.2 a0 a1) (iX3_run_31 (iX3_run_33 (iX3_run_36 (iX3_run_38 (vin 8 (by decide) (by grind) (by grind)) (iX3_run_39 (iX3_run_41 (iX3_run_43 (iX3_run_44 ?_))))))))))))))
      rw [ed]
      refine iX3_run_45 (iX3_run_47 (iX3_run_48 (iX3_run_50 (s_X3_note _ hc hc1) (hdd := by omega) (iX3_run_53 (iX3_run_55 (fun h55 => ?_) (fun h55 => ?_) (fun h55 => ?_) (fun h55 => ?_) (fun h55 => ?_) (fun h55 => ?_) (fun h55 => ?_) (fun h55 => ?_) (fun h55 => ?_) (fun h55 => ?_) (fun h55 => ?_) (fun h55 => ?_) (fun h55 => ?_) (fun h55_0 h55_1 h55_2 h55_3 h55_4 h55_5 h55_6 h55_7 h55_8 h55_9 h55_10 h55_11 h55_12 => ?_))))))
      · have hv : runF b K (n + 1) f a x = (x + b, 1 :: ([])) := by rw [hu, ‹(xTB 3).getD (4 * holdF 8 f a + a).toNatClampNeg 0 = 1›]; rfl
        rw [‹(xTB 3).getD (4 * holdF 8 f a + a).toNatClampNeg 0 = 1›]
        rw [hv] at hlen ⊢
        simp only [List.length_cons, List.length_append, List.length_nil] at hlen
        have t4 := cnotes_45 (j := 4) (by decide) [1] I
        have t5 := cnotes_45 (j := 5) (by decide) [1] I
        have t3 := cnotes_3 [1] I c hc
        rw [h4] at t4
        rw [h5] at t5
        refine iX3_run_168 (iX3_run_169 (iX3_run_170 (iX3_run_173 (iX3_run_174 ?_))))
        rw [t4]
        exact ⟨rfl, rfl, rfl, rfl⟩
      · have hv : runF b K (n + 1) f a x = ((runF b K n K 1 x).1 - (runF b K n K 2 1).1, 2 :: ((runF b K n K 1 x).2 ++ (runF b K n K 2 1).2)) := by rw [hu, ‹(xTB 3).getD (4 * holdF 8 f a + a).toNatClampNeg 0 = 2›]; rfl
        rw [‹(xTB 3).getD (4 * holdF 8 f a + a).toNatClampNeg 0 = 2›]
        rw [hv] at hlen ⊢
        simp only [List.length_cons, List.length_append, List.length_nil] at hlen
        have t4 := cnotes_45 (j := 4) (by decide) [2] I
        have t5 := cnotes_45 (j := 5) (by decide) [2] I
        have t3 := cnotes_3 [2] I c hc
        rw [h4] at t4
        rw [h5] at t5
        have s1 := ih K 1 x (cnotes I [2]) J (c + 1) (by omega) (by first | exact a0 | decide) (by first | exact a1 | decide) t3 (by omega) t4 t5
        refine iX3_run_175 (iX3_run_176 (iX3_run_177 (iX3_run_180 (iX3_run_181 (iX3_run_182 ?_)))))
        rw [t5]
        refine iX3_run_184 s1 (hdd := by omega) (iX3_run_187 (iX3_run_188 (iX3_run_189 (iX3_run_192 (iX3_run_193 (iX3_run_194 ?_))))))
        have u4 := cnotes_45 (j := 4) (by decide) (runF b K n K 1 x).2 (cnotes I [2])
        have u5 := cnotes_45 (j := 5) (by decide) (runF b K n K 1 x).2 (cnotes I [2])
        have u3 := cnotes_3 (runF b K n K 1 x).2 (cnotes I [2]) (c + 1) t3
        rw [t4] at u4
        rw [t5] at u5
        have s2 := ih K 2 1 (cnotes (cnotes I [2]) (runF b K n K 1 x).2) J (c + 1 + (runF b K n K 1 x).2.length) (by omega) (by decide) (by decide) u3 (by omega) u4 u5
        rw [u5]
        refine iX3_run_196 s2 (hdd := by omega) (iX3_run_199 (iX3_run_200 ?_))
        refine ⟨rfl, rfl, ?_, rfl⟩
        show _ = cnotes (cnotes I [2]) ((runF b K n K 1 x).2 ++ (runF b K n K 2 1).2)
        rw [cnotes_app]
      · have hv : runF b K (n + 1) f a x = ((runF b K n K 0 x).1 * 2, 10 :: ((runF b K n K 0 x).2)) := by rw [hu, ‹(xTB 3).getD (4 * holdF 8 f a + a).toNatClampNeg 0 = 10›]; rfl
        rw [‹(xTB 3).getD (4 * holdF 8 f a + a).toNatClampNeg 0 = 10›]
        rw [hv] at hlen ⊢
        simp only [List.length_cons, List.length_append, List.length_nil] at hlen
        have t4 := cnotes_45 (j := 4) (by decide) [10] I
        have t5 := cnotes_45 (j := 5) (by decide) [10] I
        have t3 := cnotes_3 [10] I c hc
        rw [h4] at t4
        rw [h5] at t5
        have s1 := ih K 0 x (cnotes I [10]) J (c + 1) (by omega) (by first | exact a0 | decide) (by first | exact a1 | decide) t3 (by omega) t4 t5
        refine iX3_run_201 (iX3_run_202 (iX3_run_203 (iX3_run_206 (iX3_run_207 (iX3_run_208 ?_)))))
        rw [t5]
        refine iX3_run_210 s1 (hdd := by omega) (iX3_run_213 (iX3_run_214 (iX3_run_215 ?_)))
        exact ⟨rfl, rfl, rfl, rfl⟩
      · have hv : runF b K (n + 1) f a x = (x ^^^ b, 11 :: ([])) := by rw [hu, ‹(xTB 3).getD (4 * holdF 8 f a + a).toNatClampNeg 0 = 11›]; rfl
        rw [‹(xTB 3).getD (4 * holdF 8 f a + a).toNatClampNeg 0 = 11›]
        rw [hv] at hlen ⊢
        simp only [List.length_cons, List.length_append, List.length_nil] at hlen
        have t4 := cnotes_45 (j := 4) (by decide) [11] I
        have t5 := cnotes_45 (j := 5) (by decide) [11] I
        have t3 := cnotes_3 [11] I c hc
        rw [h4] at t4
        rw [h5] at t5
        refine iX3_run_216 (iX3_run_217 (iX3_run_218 (iX3_run_221 (iX3_run_222 ?_))))
        rw [t4]
        exact ⟨rfl, rfl, rfl, rfl⟩
      · have hv : runF b K (n + 1) f a x = ((runF b K n ((xTB 2).getD (holdF 8 f a).toNatClampNeg 0) a x).1 + 3, 20 :: ((runF b K n ((xTB 2).getD (holdF 8 f a).toNatClampNeg 0) a x).2)) := by rw [hu, ‹(xTB 3).getD (4 * holdF 8 f a + a).toNatClampNeg 0 = 20›]; rfl
        rw [‹(xTB 3).getD (4 * holdF 8 f a + a).toNatClampNeg 0 = 20›]
        rw [hv] at hlen ⊢
        simp only [List.length_cons, List.length_append, List.length_nil] at hlen
        have t4 := cnotes_45 (j := 4) (by decide) [20] I
        have t5 := cnotes_45 (j := 5) (by decide) [20] I
        have t3 := cnotes_3 [20] I c hc
        rw [h4] at t4
        rw [h5] at t5
        have s1 := ih ((xTB 2).getD (holdF 8 f a).toNatClampNeg 0) a x (cnotes I [20]) J (c + 1) (by omega) (by first | exact a0 | decide) (by first | exact a1 | decide) t3 (by omega) t4 t5
        refine iX3_run_223 (iX3_run_224 (iX3_run_226 (iX3_run_227 (iX3_run_228 (iX3_run_230 s1 (hdd := by omega) (iX3_run_233 (iX3_run_234 (iX3_run_235 ?_))))))))
        exact ⟨rfl, rfl, rfl, rfl⟩
      · have hv : runF b K (n + 1) f a x = (-(runF b K n ((xTB 2).getD (holdF 8 f a).toNatClampNeg 0) a x).1, 30 :: ((runF b K n ((xTB 2).getD (holdF 8 f a).toNatClampNeg 0) a x).2)) := by rw [hu, ‹(xTB 3).getD (4 * holdF 8 f a + a).toNatClampNeg 0 = 30›]; rfl
        rw [‹(xTB 3).getD (4 * holdF 8 f a + a).toNatClampNeg 0 = 30›]
        rw [hv] at hlen ⊢
        simp only [List.length_cons, List.length_append, List.length_nil] at hlen
        have t4 := cnotes_45 (j := 4) (by decide) [30] I
        have t5 := cnotes_45 (j := 5) (by decide) [30] I
        have t3 := cnotes_3 [30] I c hc
        rw [h4] at t4
        rw [h5] at t5
        have s1 := ih ((xTB 2).getD (holdF 8 f a).toNatClampNeg 0) a x (cnotes I [30]) J (c + 1) (by omega) (by first | exact a0 | decide) (by first | exact a1 | decide) t3 (by omega) t4 t5
        refine iX3_run_236 (iX3_run_237 (iX3_run_239 (iX3_run_240 (iX3_run_241 (iX3_run_243 s1 (hdd := by omega) (iX3_run_246 (iX3_run_247 ?_)))))))
        exact ⟨rfl, rfl, rfl, rfl⟩
      · have hv : runF b K (n + 1) f a x = ((runF b K n ((xTB 2).getD (holdF 8 f a).toNatClampNeg 0) a x).1 * 3, 40 :: ((runF b K n ((xTB 2).getD (holdF 8 f a).toNatClampNeg 0) a x).2)) := by rw [hu, ‹(xTB 3).getD (4 * holdF 8 f a + a).toNatClampNeg 0 = 40›]; rfl
        rw [‹(xTB 3).getD (4 * holdF 8 f a + a).toNatClampNeg 0 = 40›]
        rw [hv] at hlen ⊢
        simp only [List.length_cons, List.length_append, List.length_nil] at hlen
        have t4 := cnotes_45 (j := 4) (by decide) [40] I
        have t5 := cnotes_45 (j := 5) (by decide) [40] I
        have t3 := cnotes_3 [40] I c hc
        rw [h4] at t4
        rw [h5] at t5
        have s1 := ih ((xTB 2).getD (holdF 8 f a).toNatClampNeg 0) a x (cnotes I [40]) J (c + 1) (by omega) (by first | exact a0 | decide) (by first | exact a1 | decide) t3 (by omega) t4 t5
        refine iX3_run_248 (iX3_run_249 (iX3_run_251 (iX3_run_252 (iX3_run_253 (iX3_run_255 s1 (hdd := by omega) (iX3_run_258 (iX3_run_259 (iX3_run_260 ?_))))))))
        exact ⟨rfl, rfl, rfl, rfl⟩
      · have hv : runF b K (n + 1) f a x = ((runF b K n ((xTB 2).getD (holdF 8 f a).toNatClampNeg 0) a (x + 1)).1, 41 :: ((runF b K n ((xTB 2).getD (holdF 8 f a).toNatClampNeg 0) a (x + 1)).2)) := by rw [hu, ‹(xTB 3).getD (4 * holdF 8 f a + a).toNatClampNeg 0 = 41›]; rfl
        rw [‹(xTB 3).getD (4 * holdF 8 f a + a).toNatClampNeg 0 = 41›]
        rw [hv] at hlen ⊢
        simp only [List.length_cons, List.length_append, List.length_nil] at hlen
        have t4 := cnotes_45 (j := 4) (by decide) [41] I
        have t5 := cnotes_45 (j := 5) (by decide) [41] I
        have t3 := cnotes_3 [41] I c hc
        rw [h4] at t4
        rw [h5] at t5
        have s1 := ih ((xTB 2).getD (holdF 8 f a).toNatClampNeg 0) a (x + 1) (cnotes I [41]) J (c + 1) (by omega) (by first | exact a0 | decide) (by first | exact a1 | decide) t3 (by omega) t4 t5
        refine iX3_run_261 (iX3_run_262 (iX3_run_264 (iX3_run_265 (iX3_run_266 (iX3_run_267 (iX3_run_268 (iX3_run_270 s1 (hdd := by omega) (iX3_run_273 ?_))))))))
        exact ⟨rfl, rfl, rfl, rfl⟩
      · have hv : runF b K (n + 1) f a x = ((runF b K n ((xTB 2).getD (holdF 8 f a).toNatClampNeg 0) a x).1 ^^^ 5, 50 :: ((runF b K n ((xTB 2).getD (holdF 8 f a).toNatClampNeg 0) a x).2)) := by rw [hu, ‹(xTB 3).getD (4 * holdF 8 f a + a).toNatClampNeg 0 = 50›]; rfl
        rw [‹(xTB 3).getD (4 * holdF 8 f a + a).toNatClampNeg 0 = 50›]
        rw [hv] at hlen ⊢
        simp only [List.length_cons, List.length_append, List.length_nil] at hlen
        have t4 := cnotes_45 (j := 4) (by decide) [50] I
        have t5 := cnotes_45 (j := 5) (by decide) [50] I
        have t3 := cnotes_3 [50] I c hc
        rw [h4] at t4
        rw [h5] at t5
        have s1 := ih ((xTB 2).getD (holdF 8 f a).toNatClampNeg 0) a x (cnotes I [50]) J (c + 1) (by omega) (by first | exact a0 | decide) (by first | exact a1 | decide) t3 (by omega) t4 t5
        refine iX3_run_274 (iX3_run_275 (iX3_run_277 (iX3_run_278 (iX3_run_279 (iX3_run_281 s1 (hdd := by omega) (iX3_run_284 (iX3_run_285 (iX3_run_286 ?_))))))))
        exact ⟨rfl, rfl, rfl, rfl⟩
      · have hv : runF b K (n + 1) f a x = ((runF b K n ((xTB 2).getD (holdF 8 f a).toNatClampNeg 0) a x).1 - (runF b K n K 0 2).1, 60 :: ((runF b K n ((xTB 2).getD (holdF 8 f a).toNatClampNeg 0) a x).2 ++ (runF b K n K 0 2).2)) := by rw [hu, ‹(xTB 3).getD (4 * holdF 8 f a + a).toNatClampNeg 0 = 60›]; rfl
        rw [‹(xTB 3).getD (4 * holdF 8 f a + a).toNatClampNeg 0 = 60›]
        rw [hv] at hlen ⊢
        simp only [List.length_cons, List.length_append, List.length_nil] at hlen
        have t4 := cnotes_45 (j := 4) (by decide) [60] I
        have t5 := cnotes_45 (j := 5) (by decide) [60] I
        have t3 := cnotes_3 [60] I c hc
        rw [h4] at t4
        rw [h5] at t5
        have s1 := ih ((xTB 2).getD (holdF 8 f a).toNatClampNeg 0) a x (cnotes I [60]) J (c + 1) (by omega) (by first | exact a0 | decide) (by first | exact a1 | decide) t3 (by omega) t4 t5
        refine iX3_run_287 (iX3_run_288 (iX3_run_290 (iX3_run_291 (iX3_run_292 (iX3_run_294 s1 (hdd := by omega) (iX3_run_297 (iX3_run_298 (iX3_run_299 (iX3_run_302 (iX3_run_303 (iX3_run_304 ?_)))))))))))
        have u4 := cnotes_45 (j := 4) (by decide) (runF b K n ((xTB 2).getD (holdF 8 f a).toNatClampNeg 0) a x).2 (cnotes I [60])
        have u5 := cnotes_45 (j := 5) (by decide) (runF b K n ((xTB 2).getD (holdF 8 f a).toNatClampNeg 0) a x).2 (cnotes I [60])
        have u3 := cnotes_3 (runF b K n ((xTB 2).getD (holdF 8 f a).toNatClampNeg 0) a x).2 (cnotes I [60]) (c + 1) t3
        rw [t4] at u4
        rw [t5] at u5
        have s2 := ih K 0 2 (cnotes (cnotes I [60]) (runF b K n ((xTB 2).getD (holdF 8 f a).toNatClampNeg 0) a x).2) J (c + 1 + (runF b K n ((xTB 2).getD (holdF 8 f a).toNatClampNeg 0) a x).2.length) (by omega) (by decide) (by decide) u3 (by omega) u4 u5
        rw [u5]
        refine iX3_run_306 s2 (hdd := by omega) (iX3_run_309 (iX3_run_310 ?_))
        refine ⟨rfl, rfl, ?_, rfl⟩
        show _ = cnotes (cnotes I [60]) ((runF b K n ((xTB 2).getD (holdF 8 f a).toNatClampNeg 0) a x).2 ++ (runF b K n K 0 2).2)
        rw [cnotes_app]
      · have hv : runF b K (n + 1) f a x = ((runF b K n ((xTB 2).getD (holdF 8 f a).toNatClampNeg 0) a x).1 + 1, 61 :: ((runF b K n ((xTB 2).getD (holdF 8 f a).toNatClampNeg 0) a x).2)) := by rw [hu, ‹(xTB 3).getD (4 * holdF 8 f a + a).toNatClampNeg 0 = 61›]; rfl
        rw [‹(xTB 3).getD (4 * holdF 8 f a + a).toNatClampNeg 0 = 61›]
        rw [hv] at hlen ⊢
        simp only [List.length_cons, List.length_append, List.length_nil] at hlen
        have t4 := cnotes_45 (j := 4) (by decide) [61] I
        have t5 := cnotes_45 (j := 5) (by decide) [61] I
        have t3 := cnotes_3 [61] I c hc
        rw [h4] at t4
        rw [h5] at t5
        have s1 := ih ((xTB 2).getD (holdF 8 f a).toNatClampNeg 0) a x (cnotes I [61]) J (c + 1) (by omega) (by first | exact a0 | decide) (by first | exact a1 | decide) t3 (by omega) t4 t5
        refine iX3_run_311 (iX3_run_312 (iX3_run_314 (iX3_run_315 (iX3_run_316 (iX3_run_318 s1 (hdd := by omega) (iX3_run_321 (iX3_run_322 (iX3_run_323 ?_))))))))
        exact ⟨rfl, rfl, rfl, rfl⟩
      · have hv : runF b K (n + 1) f a x = ((runF b K n ((xTB 2).getD (holdF 8 f a).toNatClampNeg 0) a x).1 * 2, 70 :: ((runF b K n ((xTB 2).getD (holdF 8 f a).toNatClampNeg 0) a x).2)) := by rw [hu, ‹(xTB 3).getD (4 * holdF 8 f a + a).toNatClampNeg 0 = 70›]; rfl
        rw [‹(xTB 3).getD (4 * holdF 8 f a + a).toNatClampNeg 0 = 70›]
        rw [hv] at hlen ⊢
        simp only [List.length_cons, List.length_append, List.length_nil] at hlen
        have t4 := cnotes_45 (j := 4) (by decide) [70] I
        have t5 := cnotes_45 (j := 5) (by decide) [70] I
        have t3 := cnotes_3 [70] I c hc
        rw [h4] at t4
        rw [h5] at t5
        have s1 := ih ((xTB 2).getD (holdF 8 f a).toNatClampNeg 0) a x (cnotes I [70]) J (c + 1) (by omega) (by first | exact a0 | decide) (by first | exact a1 | decide) t3 (by omega) t4 t5
        refine iX3_run_324 (iX3_run_325 (iX3_run_327 (iX3_run_328 (iX3_run_329 (iX3_run_331 s1 (hdd := by omega) (iX3_run_334 (iX3_run_335 (iX3_run_336 ?_))))))))
        exact ⟨rfl, rfl, rfl, rfl⟩
      · have hv : runF b K (n + 1) f a x = ((runF b K n ((xTB 2).getD (holdF 8 f a).toNatClampNeg 0) a x).1 + (runF b K n K 2 2).1, 80 :: ((runF b K n ((xTB 2).getD (holdF 8 f a).toNatClampNeg 0) a x).2 ++ (runF b K n K 2 2).2)) := by rw [hu, ‹(xTB 3).getD (4 * holdF 8 f a + a).toNatClampNeg 0 = 80›]; rfl
        rw [‹(xTB 3).getD (4 * holdF 8 f a + a).toNatClampNeg 0 = 80›]
        rw [hv] at hlen ⊢
        simp only [List.length_cons, List.length_append, List.length_nil] at hlen
        have t4 := cnotes_45 (j := 4) (by decide) [80] I
        have t5 := cnotes_45 (j := 5) (by decide) [80] I
        have t3 := cnotes_3 [80] I c hc
        rw [h4] at t4
        rw [h5] at t5
        have s1 := ih ((xTB 2).getD (holdF 8 f a).toNatClampNeg 0) a x (cnotes I [80]) J (c + 1) (by omega) (by first | exact a0 | decide) (by first | exact a1 | decide) t3 (by omega) t4 t5
        refine iX3_run_337 (iX3_run_338 (iX3_run_340 (iX3_run_341 (iX3_run_342 (iX3_run_344 s1 (hdd := by omega) (iX3_run_347 (iX3_run_348 (iX3_run_349 (iX3_run_352 (iX3_run_353 (iX3_run_354 ?_)))))))))))
        have u4 := cnotes_45 (j := 4) (by decide) (runF b K n ((xTB 2).getD (holdF 8 f a).toNatClampNeg 0) a x).2 (cnotes I [80])
        have u5 := cnotes_45 (j := 5) (by decide) (runF b K n ((xTB 2).getD (holdF 8 f a).toNatClampNeg 0) a x).2 (cnotes I [80])
        have u3 := cnotes_3 (runF b K n ((xTB 2).getD (holdF 8 f a).toNatClampNeg 0) a x).2 (cnotes I [80]) (c + 1) t3
        rw [t4] at u4
        rw [t5] at u5
        have s2 := ih K 2 2 (cnotes (cnotes I [80]) (runF b K n ((xTB 2).getD (holdF 8 f a).toNatClampNeg 0) a x).2) J (c + 1 + (runF b K n ((xTB 2).getD (holdF 8 f a).toNatClampNeg 0) a x).2.length) (by omega) (by decide) (by decide) u3 (by omega) u4 u5
        rw [u5]
        refine iX3_run_356 s2 (hdd := by omega) (iX3_run_359 (iX3_run_360 ?_))
        refine ⟨rfl, rfl, ?_, rfl⟩
        show _ = cnotes (cnotes I [80]) ((runF b K n ((xTB 2).getD (holdF 8 f a).toNatClampNeg 0) a x).2 ++ (runF b K n K 2 2).2)
        rw [cnotes_app]
      · generalize hB : (xTB 3).getD (4 * holdF 8 f a + a).toNatClampNeg 0 = body at *
        have hv : runF b K (n + 1) f a x = ((runF b K n ((xTB 2).getD (holdF 8 f a).toNatClampNeg 0) a x).1 - 1, body :: ((runF b K n ((xTB 2).getD (holdF 8 f a).toNatClampNeg 0) a x).2)) := by rw [hu]; simp [*]
        rw [hv] at hlen ⊢
        simp only [List.length_cons, List.length_append, List.length_nil] at hlen
        have t4 := cnotes_45 (j := 4) (by decide) [body] I
        have t5 := cnotes_45 (j := 5) (by decide) [body] I
        have t3 := cnotes_3 [body] I c hc
        rw [h4] at t4
        rw [h5] at t5
        have s1 := ih ((xTB 2).getD (holdF 8 f a).toNatClampNeg 0) a x (cnotes I [body]) J (c + 1) (by omega) (by first | exact a0 | decide) (by first | exact a1 | decide) t3 (by omega) t4 t5
        refine iX3_run_361 (iX3_run_362 (iX3_run_364 (iX3_run_365 (iX3_run_366 (iX3_run_368 s1 (hdd := by omega) (iX3_run_371 (iX3_run_372 (iX3_run_373 ?_))))))))
        exact ⟨rfl, rfl, rfl, rfl⟩
end
