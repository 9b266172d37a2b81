/-! ===== bills for one quiet hour ===== -/
def f_bc (a : Int32) : Int32 :=
  let b := a - (ush a 1 &&& 1431655765)
  let c := (b &&& 858993459) + (ush b 2 &&& 858993459)
  let d := (c + ush c 4) &&& 252645135
  let e := d + ush d 8
  let f := e + ush e 16
  f &&& 63
def pcn (x : Nat) : Nat := bit x 0 + bit x 1 + bit x 2 + bit x 3 + bit x 4 + bit x 5 + bit x 6 + bit x 7 + bit x 8 + bit x 9
theorem bc_pcn {x : Nat} (h : x < 1024) : f_bc (nI x) = nI (pcn x) := by
  have : ∀ x : Nat, x < 1024 → f_bc (nI x) = nI (pcn x) := by decide +kernel
  exact this x h
theorem pcn_le (x : Nat) : pcn x ≤ 10 := by
  have := bit_01 x 0
  have := bit_01 x 1
  have := bit_01 x 2
  have := bit_01 x 3
  have := bit_01 x 4
  have := bit_01 x 5
  have := bit_01 x 6
  have := bit_01 x 7
  have := bit_01 x 8
  have := bit_01 x 9
  unfold pcn
  omega
theorem clr_facts {x : Nat} (h : x < 1024) (h0 : 0 < x) : nI x &&& (nI x - 1) = nI (x &&& (x - 1)) ∧ (x &&& (x - 1)) < x ∧ pcn x = pcn (x &&& (x - 1)) + 1 := by
  have : ∀ x : Nat, x < 1024 → 0 < x → nI x &&& (nI x - 1) = nI (x &&& (x - 1)) ∧ (x &&& (x - 1)) < x ∧ pcn x = pcn (x &&& (x - 1)) + 1 := by decide +kernel
  exact this x h h0
def sumN (f : Nat → Nat) (x : Nat) : Nat → Nat
  | 0 => 0
  | k + 1 => sumN f x k + bit x k * f k
theorem sumN_le {f : Nat → Nat} {x : Nat} : ∀ n : Nat, n ≤ 10 → (∀ k, k < 10 → f k ≤ 99) → sumN f x n ≤ 99 * n
  | 0, _, _ => by simp [sumN]
  | n + 1, hn, h => by
    have := sumN_le (f := f) (x := x) n (by omega) h
    have h1 := h n (by omega)
    have : bit x n * f n ≤ 99 := by rcases bit_01 x n with e | e <;> rw [e] <;> omega
    simp only [sumN]
    omega
def fB (I : xI) (w k : Nat) : Nat := (I (7 + w) k).toNatClampNeg
theorem fB_fr {I I' : xI} (h : Fq I I') {w : Nat} (hw : w ≤ 3) : fB I' w = fB I w := by
  funext k
  unfold fB
  have : I' (7 + w) = I (7 + w) := h.1 _ (by simp only [scrI, List.mem_cons, List.not_mem_nil, or_false]; omega) (by omega)
  rw [this]
theorem fB_b {I : xI} (hb : ivBills I) {k : Nat} (hk : k < 10) : I 7 k = nI (fB I 0 k) ∧ I 10 k = nI (fB I 3 k) ∧ fB I 0 k ≤ 99 ∧ fB I 3 k ≤ 99 ∧ I 58 k = nI (fB I 0 k) ∧ I 61 k = nI (fB I 3 k) := by
  obtain ⟨e1, e2, e3, e4, a1, a2, a3, a4, a5, a6, a7, a8⟩ := hb k hk
  have x1 : I 7 k = nI (fB I 0 k) := (clamp_nI a1).symm
  have x2 : I 10 k = nI (fB I 3 k) := (clamp_nI a7).symm
  refine ⟨x1, x2, ?_, ?_, by rw [e1]; exact x1, by rw [e4]; exact x2⟩
  · have := clamp_lt' (x := I 7 k) (N := 100) (n := 100) (by decide) a1 (by grind)
    show (I 7 k).toNatClampNeg ≤ 99
    omega
  · have := clamp_lt' (x := I 10 k) (N := 100) (n := 100) (by decide) a7 (by grind)
    show (I 10 k).toNatClampNeg ≤ 99
    omega
theorem sgn {a b : Nat} (ha : a < 2 ^ 30) (hb : b < 2 ^ 30) : (0 < nI a - nI b ↔ b < a) ∧ (nI a - nI b = 0 ↔ a = b) := by
  have h := pk_sub_toInt ha hb
  refine ⟨?_, ?_⟩
  · rw [Int32.lt_iff_toInt_lt, h, show (0 : Int32).toInt = 0 by decide]
    omega
  · rw [← Int32.toInt_inj, h, show (0 : Int32).toInt = 0 by decide]
    omega
def btr (wo : Nat → Nat) (s b : Nat) : Prop := wo b < wo s ∨ (wo s = wo b ∧ pcn s < pcn b)
noncomputable def pkb (le wo : Nat → Nat) (q : Nat) : Nat → Nat
  | 0 => 0
  | x + 1 => @ite _ (le (x + 1) ≤ q ∧ btr wo (x + 1) (pkb le wo q x)) (Classical.propDecidable _) (x + 1) (pkb le wo q x)
theorem pkb_le {le wo : Nat → Nat} {q : Nat} : ∀ x, pkb le wo q x ≤ x
  | 0 => Nat.le_refl _
  | x + 1 => by
    have := pkb_le (le := le) (wo := wo) (q := q) x
    simp only [pkb]
    split <;> omega
theorem shl_n {n : Nat} (h : n ≤ 10) : (1 : Int32) <<< (nI n &&& 31) = nI (2 ^ n) ∧ 2 ^ n ≤ 1024 ∧ 0 < 2 ^ n := by
  have : ∀ n : Nat, n < 11 → (1 : Int32) <<< (nI n &&& 31) = nI (2 ^ n) ∧ 2 ^ n ≤ 1024 ∧ 0 < 2 ^ n := by decide +kernel
  exact this n (by omega)
section
variable {I : xI} {J : xJ} {nB nS : Nat} {ls : lwT}
theorem s_bitCount (a : Int32) : SpecF 0 M_J6_bitCount_0f7a4 [.int a] xG1 I J (some (.int (f_bc a))) I J := by
  refine specF_ofF (L := [some (.int a)]) (by decide +kernel) (Nat.le_of_ble_eq_true rfl) rfl ?_
  refine iJ6_bitCount_0f7a4_0 (iJ6_bitCount_0f7a4_1 (iJ6_bitCount_0f7a4_2 (iJ6_bitCount_0f7a4_3 (iJ6_bitCount_0f7a4_4 (iJ6_bitCount_0f7a4_7 (iJ6_bitCount_0f7a4_8 (iJ6_bitCount_0f7a4_9 (iJ6_bitCount_0f7a4_10 (iJ6_bitCount_0f7a4_11 (iJ6_bitCount_0f7a4_14 (iJ6_bitCount_0f7a4_15 (iJ6_bitCount_0f7a4_16 (iJ6_bitCount_0f7a4_17 (iJ6_bitCount_0f7a4_18 (iJ6_bitCount_0f7a4_21 (iJ6_bitCount_0f7a4_22 (iJ6_bitCount_0f7a4_23 (iJ6_bitCount_0f7a4_24 (iJ6_bitCount_0f7a4_25 (iJ6_bitCount_0f7a4_26 (iJ6_bitCount_0f7a4_27 (iJ6_bitCount_0f7a4_28 (iJ6_bitCount_0f7a4_29 (iJ6_bitCount_0f7a4_32 (iJ6_bitCount_0f7a4_33 (iJ6_bitCount_0f7a4_34 (iJ6_bitCount_0f7a4_35 (iJ6_bitCount_0f7a4_36 (iJ6_bitCount_0f7a4_38 (iJ6_bitCount_0f7a4_39 (iJ6_bitCount_0f7a4_40 (iJ6_bitCount_0f7a4_41 (iJ6_bitCount_0f7a4_42 (iJ6_bitCount_0f7a4_43 (iJ6_bitCount_0f7a4_45 (iJ6_bitCount_0f7a4_46 (iJ6_bitCount_0f7a4_47 (iJ6_bitCount_0f7a4_48 (iJ6_bitCount_0f7a4_49 (iJ6_bitCount_0f7a4_51 (iJ6_bitCount_0f7a4_52 ?_)))))))))))))))))))))))))))))))))))))))))
  exact ⟨rfl, rfl, rfl, rfl⟩
theorem s_X12_bitsOf {x : Nat} (hx : x < 1024) : SpecF 0 M_X12_bitsOf [.int (nI x)] xG1 I J (some (.int (nI (pcn x)))) I J := by
  refine specF_of (L := [some (.int (nI x)), none, none]) (by decide) (Nat.le_of_ble_eq_true rfl) rfl ?_
  have key : ∀ m y a : Nat, y ≤ m → y < 1024 → a + pcn y = pcn x → WP 0 (1000000, 0, 0) none M_X12_bitsOf (fun r g i j => r = some (.int (nI (pcn x))) ∧ g = xG1 ∧ i = I ∧ j = J) 4 [some (.int (nI x)), some (.int (nI a)), some (.int (nI y))] [] xG1 I J := by
    intro m
    induction m with
    | zero =>
      intro y a hy hy2 ha
      obtain rfl : y = 0 := by omega
      have : pcn 0 = 0 := by decide
      refine iX12_bitsOf_4 (iX12_bitsOf_5 (fun h5 => ?_) (fun h5 => by first | exact absurd ((rfl : nI 0 = 0)) h5 | exact absurd h5 ((rfl : nI 0 = 0))))
      refine iX12_bitsOf_20 (iX12_bitsOf_21 ?_)
      exact ⟨by rw [← ha, this, Nat.add_zero], rfl, rfl, rfl⟩
    | succ m ih =>
      intro y a hy hy2 ha
      by_cases h0 : y = 0
      · exact ih y a (by omega) hy2 ha
      · obtain ⟨t1, t2, t3⟩ := clr_facts hy2 (by omega)
        have ei : nI a + (1) = nI (a + 1) := nI_1 _
        have n5 : ¬ nI y = 0 := nI_ne0 (by omega) (by omega)
        refine iX12_bitsOf_4 (iX12_bitsOf_5 (fun h5 => absurd h5 (n5)) (fun h5 => ?_))
        refine iX12_bitsOf_8 (iX12_bitsOf_11 (iX12_bitsOf_12 (iX12_bitsOf_13 (iX12_bitsOf_14 (iX12_bitsOf_15 (iX12_bitsOf_16 (iX12_bitsOf_17 ?_)))))))
        rw [t1, ei]
        exact ih _ _ (by omega) (by omega) (by omega)
  refine iX12_bitsOf_0 (iX12_bitsOf_1 (iX12_bitsOf_2 (iX12_bitsOf_3 ?_)))
  exact key x x 0 (by omega) hx (by omega)
theorem s_X5_sum (h : Wd I nB nS ls) {x : Nat} (hx : x < 1024) {w : Nat} (hw : w = 0 ∨ w = 3) : SpecF 2 M_X5_sum [.ref 1, .int (nI x), .int (nI w)] xG1 I J (some (.int (nI (sumN (fB I w) x nB)))) I J := by
  obtain ⟨hB, hS⟩ := h.le
  have hnB := h.2.1
  refine specF_of (L := [some (.ref 1), some (.int (nI x)), some (.int (nI w)), none, none]) (by decide) (Nat.le_of_ble_eq_true rfl) rfl ?_
  have key : ∀ m k : Nat, k + m = nB → WP 2 (1000000, 0, 0) none M_X5_sum (fun r g i j => r = some (.int (nI (sumN (fB I w) x nB))) ∧ g = xG1 ∧ i = I ∧ j = J) 5 [some (.ref 1), some (.int (nI x)), some (.int (nI w)), some (.int (nI (sumN (fB I w) x k))), some (.int (nI k))] [] xG1 I J := by
    intro m
    induction m with
    | zero =>
      intro k hk
      obtain rfl : k = nB := by omega
      refine iX5_sum_5 (iX5_sum_7 (iX5_sum_8 ?_))
      rw [h.1]
      refine iX5_sum_11 (fun h11 => ?_) (fun h11 => by first | exact absurd (Int32.le_refl _) h11 | exact absurd h11 (Int32.le_refl _))
      refine iX5_sum_40 (iX5_sum_41 ?_)
      exact ⟨rfl, rfl, rfl, rfl⟩
    | succ m ih =>
      intro k hk
      have ei : nI k + (1) = nI (k + 1) := nI_1 _
      have f11 : ¬ nI nB ≤ nI k := nI_ge (by omega) (by omega)
      have hbk := bit_01 x k
      have q21 : nI (bit x k) = 1 ↔ bit x k = 1 := nI_eq (b := 1) (by omega) (by omega)
      have eg : f_get I (nI k) (nI w) = nI (fB I w k) := by
        rw [get_b h (b := k) (by omega) (w := w) (by omega)]
        obtain ⟨x1, x2, -⟩ := fB_b h.2.2.2.2.2.2.1 (k := k) (by omega)
        rcases hw with rfl | rfl
        · exact x1
        · exact x2
      have ih := ih (k + 1) (by omega)
      simp only [sumN] at ih
      by_cases q : bit x k = 1
      · rw [q, Nat.one_mul] at ih
        refine iX5_sum_5 (iX5_sum_7 (iX5_sum_8 ?_))
        rw [h.1]
        refine iX5_sum_11 (fun h11 => absurd h11 (f11)) (fun h11 => ?_)
        refine iX5_sum_14 (iX5_sum_15 (iX5_sum_17 (iX5_sum_18 (iX5_sum_19 (iX5_sum_20 ?_)))))
        rw [bit_shift hx (by omega)]
        refine iX5_sum_21 (fun h21 => absurd h21 (fun z => z (q21.mpr q))) (fun h21 => ?_)
        refine iX5_sum_24 (iX5_sum_25 (iX5_sum_26 (iX5_sum_28 (iX5_sum_29 (s_X5_get _ _ hB hS) ?_))))
        rw [eg]
        refine iX5_sum_32 ?_
        rw [nI_add]
        refine iX5_sum_33 (iX5_sum_34 (iX5_sum_37 ?_))
        rw [ei]
        exact ih
      · rw [show bit x k = 0 by omega, Nat.zero_mul, Nat.add_zero] at ih
        refine iX5_sum_5 (iX5_sum_7 (iX5_sum_8 ?_))
        rw [h.1]
        refine iX5_sum_11 (fun h11 => absurd h11 (f11)) (fun h11 => ?_)
        refine iX5_sum_14 (iX5_sum_15 (iX5_sum_17 (iX5_sum_18 (iX5_sum_19 (iX5_sum_20 ?_)))))
        rw [bit_shift hx (by omega)]
        refine iX5_sum_21 (fun h21 => ?_) (fun h21 => by first | exact absurd (fun z => q (q21.mp z)) h21 | exact absurd h21 (fun z => q (q21.mp z)))
        refine iX5_sum_34 (iX5_sum_37 ?_)
        rw [ei]
        exact ih
  refine iX5_sum_0 (iX5_sum_1 (iX5_sum_2 (iX5_sum_3 ?_)))
  exact key nB 0 (by omega)
theorem s_X12_lengthsOf (h : Wd I nB nS ls) {x : Nat} (hx : x < 1024) : SpecF 2 M_X12_lengthsOf [.ref 57, .int (nI x)] xG1 I J (some (.int (nI (sumN (fB I 0) x nB)))) I J := by
  have hnB := h.2.1
  refine specF_of (L := [some (.ref 57), some (.int (nI x)), none, none]) (by decide) (Nat.le_of_ble_eq_true rfl) rfl ?_
  have key : ∀ m k : Nat, k + m = nB → WP 2 (1000000, 0, 0) none M_X12_lengthsOf (fun r g i j => r = some (.int (nI (sumN (fB I 0) x nB))) ∧ g = xG1 ∧ i = I ∧ j = J) 4 [some (.ref 57), some (.int (nI x)), some (.int (nI (sumN (fB I 0) x k))), some (.int (nI k))] [] xG1 I J := by
    intro m
    induction m with
    | zero =>
      intro k hk
      obtain rfl : k = nB := by omega
      refine iX12_lengthsOf_4 (iX12_lengthsOf_5 (iX12_lengthsOf_6 ?_))
      rw [h.2.2.2.2.1]
      refine iX12_lengthsOf_9 (fun h9 => ?_) (fun h9 => by first | exact absurd (Int32.le_refl _) h9 | exact absurd h9 (Int32.le_refl _))
      refine iX12_lengthsOf_35 (iX12_lengthsOf_36 ?_)
      exact ⟨rfl, rfl, rfl, rfl⟩
    | succ m ih =>
      intro k hk
      have ei : nI k + (1) = nI (k + 1) := nI_1 _
      have f11 : ¬ nI nB ≤ nI k := nI_ge (by omega) (by omega)
      have hbk := bit_01 x k
      obtain ⟨-, -, -, -, x5, x6⟩ := fB_b h.2.2.2.2.2.2.1 (k := k) (by omega)
      have ih := ih (k + 1) (by omega)
      simp only [sumN] at ih
      by_cases q : bit x k = 1
      · rw [q, Nat.one_mul] at ih
        refine iX12_lengthsOf_4 (iX12_lengthsOf_5 (iX12_lengthsOf_6 ?_))
        rw [h.2.2.2.2.1]
        refine iX12_lengthsOf_9 (fun h9 => absurd h9 (f11)) (fun h9 => ?_)
        refine iX12_lengthsOf_12 (iX12_lengthsOf_13 (iX12_lengthsOf_14 (s_X12_has' hx (by omega)) ?_))
        rw [q]
        refine iX12_lengthsOf_17 (fun h17 => absurd h17 ((by decide : ¬ nI 1 = 0))) (fun h17 => ?_)
        refine iX12_lengthsOf_20 (iX12_lengthsOf_21 (iX12_lengthsOf_22 (iX12_lengthsOf_25 (iX12_lengthsOf_26 (vp_in_nI (by omega) (by omega)) ?_))))
        rw [nI_clamp (by omega), x5]
        refine iX12_lengthsOf_27 ?_
        rw [nI_add]
        refine iX12_lengthsOf_28 (iX12_lengthsOf_29 (iX12_lengthsOf_32 ?_))
        rw [ei]
        exact ih
      · rw [show bit x k = 0 by omega, Nat.zero_mul, Nat.add_zero] at ih
        refine iX12_lengthsOf_4 (iX12_lengthsOf_5 (iX12_lengthsOf_6 ?_))
        rw [h.2.2.2.2.1]
        refine iX12_lengthsOf_9 (fun h9 => absurd h9 (f11)) (fun h9 => ?_)
        refine iX12_lengthsOf_12 (iX12_lengthsOf_13 (iX12_lengthsOf_14 (s_X12_has' hx (by omega)) ?_))
        rw [show bit x k = 0 by omega]
        refine iX12_lengthsOf_17 (fun h17 => ?_) (fun h17 => by first | exact absurd ((rfl : nI 0 = 0)) h17 | exact absurd h17 ((rfl : nI 0 = 0)))
        refine iX12_lengthsOf_29 (iX12_lengthsOf_32 ?_)
        rw [ei]
        exact ih
  refine iX12_lengthsOf_0 (iX12_lengthsOf_1 (iX12_lengthsOf_2 (iX12_lengthsOf_3 ?_)))
  exact key nB 0 (by omega)
theorem s_X12_worthsOf (h : Wd I nB nS ls) {x : Nat} (hx : x < 1024) : SpecF 2 M_X12_worthsOf [.ref 57, .int (nI x)] xG1 I J (some (.int (nI (sumN (fB I 3) x nB)))) I J := by
  have hnB := h.2.1
  refine specF_of (L := [some (.ref 57), some (.int (nI x)), none, none]) (by decide) (Nat.le_of_ble_eq_true rfl) rfl ?_
  have key : ∀ m k : Nat, k + m = nB → WP 2 (1000000, 0, 0) none M_X12_worthsOf (fun r g i j => r = some (.int (nI (sumN (fB I 3) x nB))) ∧ g = xG1 ∧ i = I ∧ j = J) 4 [some (.ref 57), some (.int (nI x)), some (.int (nI (sumN (fB I 3) x k))), some (.int (nI k))] [] xG1 I J := by
    intro m
    induction m with
    | zero =>
      intro k hk
      obtain rfl : k = nB := by omega
      refine iX12_worthsOf_4 (iX12_worthsOf_5 (iX12_worthsOf_6 ?_))
      rw [h.2.2.2.2.1]
      refine iX12_worthsOf_9 (fun h9 => ?_) (fun h9 => by first | exact absurd (Int32.le_refl _) h9 | exact absurd h9 (Int32.le_refl _))
      refine iX12_worthsOf_35 (iX12_worthsOf_36 ?_)
      exact ⟨rfl, rfl, rfl, rfl⟩
    | succ m ih =>
      intro k hk
      have ei : nI k + (1) = nI (k + 1) := nI_1 _
      have f11 : ¬ nI nB ≤ nI k := nI_ge (by omega) (by omega)
      have hbk := bit_01 x k
      obtain ⟨-, -, -, -, x5, x6⟩ := fB_b h.2.2.2.2.2.2.1 (k := k) (by omega)
      have ih := ih (k + 1) (by omega)
      simp only [sumN] at ih
      by_cases q : bit x k = 1
      · rw [q, Nat.one_mul] at ih
        refine iX12_worthsOf_4 (iX12_worthsOf_5 (iX12_worthsOf_6 ?_))
        rw [h.2.2.2.2.1]
        refine iX12_worthsOf_9 (fun h9 => absurd h9 (f11)) (fun h9 => ?_)
        refine iX12_worthsOf_12 (iX12_worthsOf_13 (iX12_worthsOf_14 (s_X12_has' hx (by omega)) ?_))
        rw [q]
        refine iX12_worthsOf_17 (fun h17 => absurd h17 ((by decide : ¬ nI 1 = 0))) (fun h17 => ?_)
        refine iX12_worthsOf_20 (iX12_worthsOf_21 (iX12_worthsOf_22 (iX12_worthsOf_25 (iX12_worthsOf_26 (vp_in_nI (by omega) (by omega)) ?_))))
        rw [nI_clamp (by omega), x6]
        refine iX12_worthsOf_27 ?_
        rw [nI_add]
        refine iX12_worthsOf_28 (iX12_worthsOf_29 (iX12_worthsOf_32 ?_))
        rw [ei]
        exact ih
      · rw [show bit x k = 0 by omega, Nat.zero_mul, Nat.add_zero] at ih
        refine iX12_worthsOf_4 (iX12_worthsOf_5 (iX12_worthsOf_6 ?_))
        rw [h.2.2.2.2.1]
        refine iX12_worthsOf_9 (fun h9 => absurd h9 (f11)) (fun h9 => ?_)
        refine iX12_worthsOf_12 (iX12_worthsOf_13 (iX12_worthsOf_14 (s_X12_has' hx (by omega)) ?_))
        rw [show bit x k = 0 by omega]
        refine iX12_worthsOf_17 (fun h17 => ?_) (fun h17 => by first | exact absurd ((rfl : nI 0 = 0)) h17 | exact absurd h17 ((rfl : nI 0 = 0)))
        refine iX12_worthsOf_29 (iX12_worthsOf_32 ?_)
        rw [ei]
        exact ih
  refine iX12_worthsOf_0 (iX12_worthsOf_1 (iX12_worthsOf_2 (iX12_worthsOf_3 ?_)))
  exact key nB 0 (by omega)
theorem s_X11_isBetterPack (h : Wd I nB nS ls) {x y : Nat} (hx : x < 1024) (hy : y < 1024) : (btr (fun z => sumN (fB I 3) z nB) x y → SpecF 4 M_X11_isBetterPack [.ref 0, .int (nI x), .int (nI y)] xG1 I J (some (.int 1)) I J) ∧ (¬ btr (fun z => sumN (fB I 3) z nB) x y → SpecF 4 M_X11_isBetterPack [.ref 0, .int (nI x), .int (nI y)] xG1 I J (some (.int 0)) I J) := by
  have hnB := h.2.1
  have h99 : ∀ k, k < 10 → fB I 3 k ≤ 99 := fun k hk => (fB_b h.2.2.2.2.2.2.1 hk).2.2.2.1
  have lx := sumN_le (f := fB I 3) (x := x) nB hnB h99
  have ly := sumN_le (f := fB I 3) (x := y) nB hnB h99
  obtain ⟨g1, g2⟩ := sgn (a := sumN (fB I 3) x nB) (b := sumN (fB I 3) y nB) (by omega) (by omega)
  have px := pcn_le x
  have py := pcn_le y
  have q36 : nI (pcn y) ≤ nI (pcn x) ↔ pcn y ≤ pcn x := nI_leI (by omega) (by omega)
  have gen : ∀ r : Int32, (r = 1 ↔ btr (fun z => sumN (fB I 3) z nB) x y) → (r = 0 ∨ r = 1) → SpecF 4 M_X11_isBetterPack [.ref 0, .int (nI x), .int (nI y)] xG1 I J (some (.int r)) I J := by
    intro r hr h01
    refine specF_of (L := [some (.ref 0), some (.int (nI x)), some (.int (nI y)), none]) (by decide) (Nat.le_of_ble_eq_true rfl) rfl ?_
    refine iX11_isBetterPack_0 (iX11_isBetterPack_1 (iX11_isBetterPack_4 (iX11_isBetterPack_5 (iX11_isBetterPack_6 (s_X5_sum h hx (w := 3) (Or.inr rfl)) (iX11_isBetterPack_9 (iX11_isBetterPack_10 (iX11_isBetterPack_13 (iX11_isBetterPack_14 (iX11_isBetterPack_15 (s_X5_sum h hy (w := 3) (Or.inr rfl)) (iX11_isBetterPack_18 (iX11_isBetterPack_19 (iX11_isBetterPack_20 (iX11_isBetterPack_21 (fun h21 => ?_) (fun h21 => ?_))))))))))))))
    · refine iX11_isBetterPack_39 (iX11_isBetterPack_40 (iX11_isBetterPack_44 ?_))
      refine ⟨congrArg (fun z => some (Value.int z)) ?_, rfl, rfl, rfl⟩
      unfold btr at hr
      grind
    · refine iX11_isBetterPack_24 (iX11_isBetterPack_25 (fun h25 => ?_) (fun h25 => ?_))
      · refine iX11_isBetterPack_43 (iX11_isBetterPack_44 ?_)
        refine ⟨congrArg (fun z => some (Value.int z)) ?_, rfl, rfl, rfl⟩
        unfold btr at hr
        grind
      · refine iX11_isBetterPack_28 (iX11_isBetterPack_29 (s_bitCount _) (iX11_isBetterPack_32 (iX11_isBetterPack_33 (s_bitCount _) ?_)))
        rw [bc_pcn hx, bc_pcn hy]
        refine iX11_isBetterPack_36 (fun h36 => ?_) (fun h36 => ?_)
        · refine iX11_isBetterPack_43 (iX11_isBetterPack_44 ?_)
          refine ⟨congrArg (fun z => some (Value.int z)) ?_, rfl, rfl, rfl⟩
          unfold btr at hr
          grind
        · refine iX11_isBetterPack_39 (iX11_isBetterPack_40 (iX11_isBetterPack_44 ?_))
          refine ⟨congrArg (fun z => some (Value.int z)) ?_, rfl, rfl, rfl⟩
          unfold btr at hr
          grind
  exact ⟨fun q => gen 1 ⟨fun _ => q, fun _ => rfl⟩ (Or.inr rfl), fun q => gen 0 ⟨fun z => absurd z (by decide), fun z => absurd z q⟩ (Or.inl rfl)⟩
noncomputable abbrev pkF (I : xI) (nB q : Nat) : Nat → Nat := pkb (fun z => sumN (fB I 0) z nB) (fun z => sumN (fB I 3) z nB) q
theorem c_pack (h : Wd I nB nS ls) {q : Nat} (hq : q ≤ 60) {what : Int32} : ∀ m x : Nat, x + 1 + m = 2 ^ nB → WP 1000 (1000000, 0, 0) none M_X11_pack (fun r g i j => r = some (.int (if what = 0 then nI (sumN (fB I 3) (pkF I nB q (2 ^ nB - 1)) nB) else nI (pkF I nB q (2 ^ nB - 1)))) ∧ g = xG1 ∧ i = I ∧ j = J) 24 [some (.ref 0), some (.int (nI q)), some (.int what), some (.int (nI (pkF I nB q x))), some (.int (nI (x + 1)))] [] xG1 I J := by
  have hnB := h.2.1
  obtain ⟨p1, p2, p3⟩ := shl_n hnB
  have h99 : ∀ k, k < 10 → fB I 0 k ≤ 99 := fun k hk => (fB_b h.2.2.2.2.2.2.1 hk).2.2.1
  intro m
  induction m with
  | zero =>
    intro x hx
    obtain rfl : x = 2 ^ nB - 1 := by omega
    have hl : pkF I nB q (2 ^ nB - 1) ≤ 2 ^ nB - 1 := pkb_le _
    refine iX11_pack_24 (iX11_pack_26 (iX11_pack_27 (iX11_pack_28 (iX11_pack_31 s_X5_billCount ?_))))
    rw [h.1]
    refine iX11_pack_34 ?_
    rw [p1]
    refine iX11_pack_35 (fun h35 => ?_) (fun h35 => by first | exact absurd (nI_le (a := 2 ^ nB) (b := 2 ^ nB - 1 + 1) (by omega) (by omega)) h35 | exact absurd h35 (nI_le (a := 2 ^ nB) (b := 2 ^ nB - 1 + 1) (by omega) (by omega)))
    refine iX11_pack_71 (iX11_pack_72 (fun h72 => ?_) (fun h72 => ?_))
    · refine iX11_pack_87 (iX11_pack_88 ?_)
      refine ⟨?_, rfl, rfl, rfl⟩
      first | rw [if_neg ‹_›] | rw [if_pos ‹_›] | rw [if_pos (Decidable.not_not.mp ‹_›)]
    · refine iX11_pack_75 (iX11_pack_76 (iX11_pack_79 (iX11_pack_80 (iX11_pack_81 (s_X5_sum h (x := pkF I nB q (2 ^ nB - 1)) (by omega) (w := 3) (Or.inr rfl)) (iX11_pack_84 (iX11_pack_88 ?_))))))
      refine ⟨?_, rfl, rfl, rfl⟩
      first | rw [if_neg ‹_›] | rw [if_pos ‹_›] | rw [if_pos (Decidable.not_not.mp ‹_›)]
  | succ m ih =>
    intro x hx
    have hl : pkF I nB q x ≤ x := pkb_le _
    have ei : nI (x + 1) + (1) = nI (x + 1 + 1) := nI_1 _
    have f35 : ¬ nI (2 ^ nB) ≤ nI (x + 1) := nI_ge (by omega) (by omega)
    have l0 := sumN_le (f := fB I 0) (x := x + 1) nB hnB h99
    have q49 : nI q < nI (sumN (fB I 0) (x + 1) nB) ↔ q < sumN (fB I 0) (x + 1) nB := nI_ltI (by omega) (by omega)
    have ih := ih (x + 1) (by omega)
    have sb := s_X11_isBetterPack (J := J) h (x := x + 1) (y := pkF I nB q x) (by omega) (by omega)
    by_cases c1 : sumN (fB I 0) (x + 1) nB ≤ q
    · by_cases c2 : btr (fun z => sumN (fB I 3) z nB) (x + 1) (pkF I nB q x)
      · have e : pkF I nB q (x + 1) = x + 1 := by simp only [pkb]; rw [if_pos ⟨c1, c2⟩]
        rw [e] at ih
        refine iX11_pack_24 (iX11_pack_26 (iX11_pack_27 (iX11_pack_28 (iX11_pack_31 s_X5_billCount ?_))))
        rw [h.1]
        refine iX11_pack_34 ?_
        rw [p1]
        refine iX11_pack_35 (fun h35 => absurd h35 (f35)) (fun h35 => ?_)
        refine iX11_pack_38 (iX11_pack_39 (iX11_pack_42 (iX11_pack_44 (iX11_pack_45 (s_X5_sum h (x := x + 1) (by omega) (w := 0) (Or.inl rfl)) (iX11_pack_48 (iX11_pack_49 (fun h49 => absurd h49 (fun z => absurd (q49.mp z) (by omega))) (fun h49 => ?_)))))))
        refine iX11_pack_52 (iX11_pack_53 (iX11_pack_55 (iX11_pack_56 (sb.1 c2) (iX11_pack_59 (fun h59 => absurd h59 ((by decide : ¬ (1 : Int32) = 0))) (fun h59 => ?_)))))
        refine iX11_pack_62 (iX11_pack_64 (iX11_pack_65 (iX11_pack_68 ?_)))
        rw [ei]
        exact ih
      · have e : pkF I nB q (x + 1) = pkF I nB q x := by simp only [pkb]; rw [if_neg (fun z => c2 z.2)]
        rw [e] at ih
        refine iX11_pack_24 (iX11_pack_26 (iX11_pack_27 (iX11_pack_28 (iX11_pack_31 s_X5_billCount ?_))))
        rw [h.1]
        refine iX11_pack_34 ?_
        rw [p1]
        refine iX11_pack_35 (fun h35 => absurd h35 (f35)) (fun h35 => ?_)
        refine iX11_pack_38 (iX11_pack_39 (iX11_pack_42 (iX11_pack_44 (iX11_pack_45 (s_X5_sum h (x := x + 1) (by omega) (w := 0) (Or.inl rfl)) (iX11_pack_48 (iX11_pack_49 (fun h49 => absurd h49 (fun z => absurd (q49.mp z) (by omega))) (fun h49 => ?_)))))))
        refine iX11_pack_52 (iX11_pack_53 (iX11_pack_55 (iX11_pack_56 (sb.2 c2) (iX11_pack_59 (fun h59 => ?_) (fun h59 => by first | exact absurd (rfl) h59 | exact absurd h59 (rfl))))))
        refine iX11_pack_65 (iX11_pack_68 ?_)
        rw [ei]
        exact ih
    · have e : pkF I nB q (x + 1) = pkF I nB q x := by simp only [pkb]; rw [if_neg (fun z => c1 z.1)]
      rw [e] at ih
      refine iX11_pack_24 (iX11_pack_26 (iX11_pack_27 (iX11_pack_28 (iX11_pack_31 s_X5_billCount ?_))))
      rw [h.1]
      refine iX11_pack_34 ?_
      rw [p1]
      refine iX11_pack_35 (fun h35 => absurd h35 (f35)) (fun h35 => ?_)
      refine iX11_pack_38 (iX11_pack_39 (iX11_pack_42 (iX11_pack_44 (iX11_pack_45 (s_X5_sum h (x := x + 1) (by omega) (w := 0) (Or.inl rfl)) (iX11_pack_48 (iX11_pack_49 (fun h49 => ?_) (fun h49 => by first | exact absurd (q49.mpr (by omega)) h49 | exact absurd h49 (q49.mpr (by omega)))))))))
      refine iX11_pack_65 (iX11_pack_68 ?_)
      rw [ei]
      exact ih
theorem m_pack (h : Wd I nB nS ls) {q : Nat} (hq : q ≤ 60) {what : Int32} : ∀ m x : Nat, x + 1 + m = 2 ^ nB → ∀ x5 : Option Value, WP 1000 (1000000, 0, 0) none M_X12_pack (fun r g i j => r = some (.int (if what = 0 then nI (sumN (fB I 3) (pkF I nB q (2 ^ nB - 1)) nB) else nI (pkF I nB q (2 ^ nB - 1)))) ∧ g = xG1 ∧ i = I ∧ j = J) 26 [some (.ref 57), some (.int (nI q)), some (.int what), some (.int (nI (pkF I nB q x))), some (.int (nI (x + 1))), x5] [] xG1 I J := by
  have hnB := h.2.1
  obtain ⟨p1, p2, p3⟩ := shl_n hnB
  have h99 : ∀ k, k < 10 → fB I 0 k ≤ 99 := fun k hk => (fB_b h.2.2.2.2.2.2.1 hk).2.2.1
  have h993 : ∀ k, k < 10 → fB I 3 k ≤ 99 := fun k hk => (fB_b h.2.2.2.2.2.2.1 hk).2.2.2.1
  intro m
  induction m with
  | zero =>
    intro x hx x5
    obtain rfl : x = 2 ^ nB - 1 := by omega
    have hl : pkF I nB q (2 ^ nB - 1) ≤ 2 ^ nB - 1 := pkb_le _
    refine iX12_pack_26 (iX12_pack_28 (iX12_pack_29 (iX12_pack_30 ?_)))
    rw [h.2.2.2.2.1]
    refine iX12_pack_33 ?_
    rw [p1]
    refine iX12_pack_34 (fun h34 => ?_) (fun h34 => by first | exact absurd (nI_le (a := 2 ^ nB) (b := 2 ^ nB - 1 + 1) (by omega) (by omega)) h34 | exact absurd h34 (nI_le (a := 2 ^ nB) (b := 2 ^ nB - 1 + 1) (by omega) (by omega)))
    refine iX12_pack_95 (iX12_pack_96 (fun h96 => ?_) (fun h96 => ?_))
    · refine iX12_pack_107 (iX12_pack_108 ?_)
      refine ⟨?_, rfl, rfl, rfl⟩
      first | rw [if_neg ‹_›] | rw [if_pos ‹_›] | rw [if_pos (Decidable.not_not.mp ‹_›)]
    · refine iX12_pack_99 (iX12_pack_100 (iX12_pack_101 (s_X12_worthsOf h (x := pkF I nB q (2 ^ nB - 1)) (by omega)) (iX12_pack_104 (iX12_pack_108 ?_))))
      refine ⟨?_, rfl, rfl, rfl⟩
      first | rw [if_neg ‹_›] | rw [if_pos ‹_›] | rw [if_pos (Decidable.not_not.mp ‹_›)]
  | succ m ih =>
    intro x hx x5
    have hl : pkF I nB q x ≤ x := pkb_le _
    have ei : nI (x + 1) + (1) = nI (x + 1 + 1) := nI_1 _
    have f35 : ¬ nI (2 ^ nB) ≤ nI (x + 1) := nI_ge (by omega) (by omega)
    have l0 := sumN_le (f := fB I 0) (x := x + 1) nB hnB h99
    have q44 : nI (sumN (fB I 0) (x + 1) nB) ≤ nI q ↔ sumN (fB I 0) (x + 1) nB ≤ q := nI_leI (by omega) (by omega)
    have ih := ih (x + 1) (by omega)
    by_cases c1 : sumN (fB I 0) (x + 1) nB ≤ q
    · have hp : pkF I nB q x < 1024 := by omega
      have hN : pkF I nB q (x + 1) = @ite _ (btr (fun z => sumN (fB I 3) z nB) (x + 1) (pkF I nB q x)) (Classical.propDecidable _) (x + 1) (pkF I nB q x) := by
        simp only [pkb]
        by_cases c2 : btr (fun z => sumN (fB I 3) z nB) (x + 1) (pkF I nB q x)
        · rw [if_pos ⟨c1, c2⟩, if_pos c2]
        · rw [if_neg (fun z => c2 z.2), if_neg c2]
      have lx := sumN_le (f := fB I 3) (x := x + 1) nB hnB h993
      have ly := sumN_le (f := fB I 3) (x := pkF I nB q x) nB hnB h993
      obtain ⟨g1, g2⟩ := sgn (a := sumN (fB I 3) (x + 1) nB) (b := sumN (fB I 3) (pkF I nB q x) nB) (by omega) (by omega)
      have px := pcn_le (x + 1)
      have py := pcn_le (pkF I nB q x)
      have q83 : nI (pcn (pkF I nB q x)) ≤ nI (pcn (x + 1)) ↔ pcn (pkF I nB q x) ≤ pcn (x + 1) := nI_leI (by omega) (by omega)
      have yes : btr (fun z => sumN (fB I 3) z nB) (x + 1) (pkF I nB q x) → ∀ x5, WP 1000 (1000000, 0, 0) none M_X12_pack (fun r g i j => r = some (.int (if what = 0 then nI (sumN (fB I 3) (pkF I nB q (2 ^ nB - 1)) nB) else nI (pkF I nB q (2 ^ nB - 1)))) ∧ g = xG1 ∧ i = I ∧ j = J) 26 [some (.ref 57), some (.int (nI q)), some (.int what), some (.int (nI (x + 1))), some (.int (nI (x + 1 + 1))), x5] [] xG1 I J := fun c2 x5 => by
        have := ih x5
        rw [hN, if_pos c2] at this
        exact this
      have no : ¬ btr (fun z => sumN (fB I 3) z nB) (x + 1) (pkF I nB q x) → ∀ x5, WP 1000 (1000000, 0, 0) none M_X12_pack (fun r g i j => r = some (.int (if what = 0 then nI (sumN (fB I 3) (pkF I nB q (2 ^ nB - 1)) nB) else nI (pkF I nB q (2 ^ nB - 1)))) ∧ g = xG1 ∧ i = I ∧ j = J) 26 [some (.ref 57), some (.int (nI q)), some (.int what), some (.int (nI (pkF I nB q x))), some (.int (nI (x + 1 + 1))), x5] [] xG1 I J := fun c2 x5 => by
        have := ih x5
        rw [hN, if_neg c2] at this
        exact this
      unfold btr at yes no
      refine iX12_pack_26 (iX12_pack_28 (iX12_pack_29 (iX12_pack_30 ?_)))
      rw [h.2.2.2.2.1]
      refine iX12_pack_33 ?_
      rw [p1]
      refine iX12_pack_34 (fun h34 => absurd h34 (f35)) (fun h34 => ?_)
      refine iX12_pack_37 (iX12_pack_38 (iX12_pack_40 (s_X12_lengthsOf h (x := x + 1) (by omega)) (iX12_pack_43 (iX12_pack_44 (fun h44 => ?_) (fun h44 => by first | exact absurd (q44.mpr c1) h44 | exact absurd h44 (q44.mpr c1))))))
      refine iX12_pack_50 (iX12_pack_51 (iX12_pack_53 (s_X12_worthsOf h (x := x + 1) (by omega)) (iX12_pack_56 (iX12_pack_57 (iX12_pack_58 (s_X12_worthsOf h (x := pkF I nB q x) hp) (iX12_pack_61 (iX12_pack_62 (iX12_pack_64 (iX12_pack_66 (fun h66 => ?_) (fun h66 => ?_))))))))))
      · refine iX12_pack_86 (iX12_pack_88 (iX12_pack_89 (iX12_pack_92 ?_)))
        rw [ei]
        first | exact yes (by grind) _ | exact no (by grind) _
      · refine iX12_pack_69 (iX12_pack_71 (fun h71 => ?_) (fun h71 => ?_))
        · refine iX12_pack_89 (iX12_pack_92 ?_)
          rw [ei]
          first | exact yes (by grind) _ | exact no (by grind) _
        · refine iX12_pack_74 (iX12_pack_76 (s_X12_bitsOf (x := x + 1) (by omega)) (iX12_pack_79 (iX12_pack_80 (s_X12_bitsOf (x := pkF I nB q x) hp) (iX12_pack_83 (fun h83 => ?_) (fun h83 => ?_)))))
          · refine iX12_pack_89 (iX12_pack_92 ?_)
            rw [ei]
            first | exact yes (by grind) _ | exact no (by grind) _
          · refine iX12_pack_86 (iX12_pack_88 (iX12_pack_89 (iX12_pack_92 ?_)))
            rw [ei]
            first | exact yes (by grind) _ | exact no (by grind) _
    · have e : pkF I nB q (x + 1) = pkF I nB q x := by simp only [pkb]; rw [if_neg (fun z => c1 z.1)]
      rw [e] at ih
      refine iX12_pack_26 (iX12_pack_28 (iX12_pack_29 (iX12_pack_30 ?_)))
      rw [h.2.2.2.2.1]
      refine iX12_pack_33 ?_
      rw [p1]
      refine iX12_pack_34 (fun h34 => absurd h34 (f35)) (fun h34 => ?_)
      refine iX12_pack_37 (iX12_pack_38 (iX12_pack_40 (s_X12_lengthsOf h (x := x + 1) (by omega)) (iX12_pack_43 (iX12_pack_44 (fun h44 => absurd h44 (fun z => c1 (q44.mp z))) (fun h44 => ?_)))))
      refine iX12_pack_47 (iX12_pack_89 (iX12_pack_92 ?_))
      rw [ei]
      exact ih _
end
theorem pp_pack : PP_pack Inv := by
  intro I J h q what
  obtain ⟨nB, nS, ls, w⟩ := Wd.of h
  by_cases hbad : f_in q 0 60 = 0 ∨ f_in what 0 1 = 0
  · refine pair_q (v := -1) h ?_ (fun i j hi hj => ?_)
    · refine spec_of (L := [some (.ref 0), some (.int q), some (.int what), none, none]) (by decide) (Nat.le_of_ble_eq_true rfl) rfl ?_
      refine iX11_pack_0 (iX11_pack_1 (fun h1 => ?_) (fun h1 => ?_))
      · refine iX11_pack_17 (iX11_pack_18 ?_)
        exact ⟨rfl, rfl, Fq.rf, Fj.rf⟩
      · refine iX11_pack_4 (iX11_pack_5 (iX11_pack_7 (fun h7 => ?_) (fun h7 => ?_)))
        · refine iX11_pack_17 (iX11_pack_18 ?_)
          exact ⟨rfl, rfl, Fq.rf, Fj.rf⟩
        · refine iX11_pack_10 (iX11_pack_11 (s_X11_isPart _) (iX11_pack_14 (fun h14 => ?_) (fun h14 => ?_)))
          · exfalso
            rcases hbad with z | z
            · have := f_in_n z
              grind
            · grind
          · refine iX11_pack_17 (iX11_pack_18 ?_)
            exact ⟨rfl, rfl, Fq.rf, Fj.rf⟩
    · refine spec_of (L := [some (.ref 57), some (.int q), some (.int what), none, none, none]) (by decide) (Nat.le_of_ble_eq_true rfl) rfl ?_
      refine iX12_pack_0 (iX12_pack_1 (iX12_pack_2 (iX12_pack_4 (s_X12_in _ _ _) (iX12_pack_7 (fun h7 => ?_) (fun h7 => ?_)))))
      · refine iX12_pack_19 (iX12_pack_20 ?_)
        exact ⟨rfl, rfl, Fq.rf, Fj.rf⟩
      · refine iX12_pack_10 (iX12_pack_11 (iX12_pack_12 (iX12_pack_13 (s_X12_in _ _ _) (iX12_pack_16 (fun h16 => ?_) (fun h16 => ?_)))))
        · exfalso
          grind
        · refine iX12_pack_19 (iX12_pack_20 ?_)
          exact ⟨rfl, rfl, Fq.rf, Fj.rf⟩
  have h1 : ¬ f_in q 0 60 = 0 := fun z => hbad (Or.inl z)
  have h2 : ¬ f_in what 0 1 = 0 := fun z => hbad (Or.inr z)
  have hq := f_in_p h1
  obtain ⟨Q, hQ, rfl⟩ := nI_of2 (x := q) (M := 60) (n := 60) (by decide) (by grind) hq.2
  obtain ⟨p1, p2, p3⟩ := shl_n w.2.1
  refine pair_q (v := if what = 0 then nI (sumN (fB I 3) (pkF I nB Q (2 ^ nB - 1)) nB) else nI (pkF I nB Q (2 ^ nB - 1))) h ?_ (fun i j hi hj => ?_)
  · refine spec_of (L := [some (.ref 0), some (.int (nI Q)), some (.int what), none, none]) (by decide) (Nat.le_of_ble_eq_true rfl) rfl ?_
    refine WP_Q (Q := fun r g i j => r = some (.int (if what = 0 then nI (sumN (fB I 3) (pkF I nB Q (2 ^ nB - 1)) nB) else nI (pkF I nB Q (2 ^ nB - 1)))) ∧ g = xG1 ∧ i = I ∧ j = J) ?_ (fun r g i j ⟨p1, p2, p3, p4⟩ => ⟨p1, p2, by rw [p3]; exact Fq.rf, by rw [p4]; exact Fj.rf⟩)
    refine iX11_pack_0 (iX11_pack_1 (fun h1 => absurd h1 (nI_pos (by omega))) (fun h1 => ?_))
    refine iX11_pack_4 (iX11_pack_5 (iX11_pack_7 (fun h7 => absurd h7 (nI_nlt (b := Q) (a := 60) (by omega) (by omega))) (fun h7 => ?_)))
    refine iX11_pack_10 (iX11_pack_11 (s_X11_isPart _) (iX11_pack_14 (fun h14 => ?_) (fun h14 => by first | exact absurd (h2) h14 | exact absurd h14 (h2))))
    refine iX11_pack_19 (iX11_pack_20 (iX11_pack_21 (iX11_pack_22 ?_)))
    exact c_pack w hQ (2 ^ nB - 1) 0 (by omega)
  · have key := m_pack (J := j) (w.fr hi) hQ (what := what) (2 ^ nB - 1) 0 (by omega) none
    rw [show pkF i nB Q = pkF I nB Q by unfold pkF; rw [fB_fr hi (by omega), fB_fr hi (by omega)], fB_fr hi (by omega)] at key
    refine spec_of (L := [some (.ref 57), some (.int (nI Q)), some (.int what), none, none, none]) (by decide) (Nat.le_of_ble_eq_true rfl) rfl ?_
    refine WP_Q (Q := fun r g i' j' => r = some (.int (if what = 0 then nI (sumN (fB I 3) (pkF I nB Q (2 ^ nB - 1)) nB) else nI (pkF I nB Q (2 ^ nB - 1)))) ∧ g = xG1 ∧ i' = i ∧ j' = j) ?_ (fun r g i j ⟨p1, p2, p3, p4⟩ => ⟨p1, p2, by rw [p3]; exact Fq.rf, by rw [p4]; exact Fj.rf⟩)
    refine iX12_pack_0 (iX12_pack_1 (iX12_pack_2 (iX12_pack_4 (s_X12_in _ _ _) (iX12_pack_7 (fun h7 => absurd h7 (h1)) (fun h7 => ?_)))))
    refine iX12_pack_10 (iX12_pack_11 (iX12_pack_12 (iX12_pack_13 (s_X12_in _ _ _) (iX12_pack_16 (fun h16 => ?_) (fun h16 => by first | exact absurd (h2) h16 | exact absurd h16 (h2))))))
    refine iX12_pack_21 (iX12_pack_22 (iX12_pack_23 (iX12_pack_24 ?_)))
    exact key
