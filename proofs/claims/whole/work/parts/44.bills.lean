/-! ===== bills ===== -/
def bB (J : xJ) (e : Nat) (L x : Int32) : Int32 := if 0 ≤ x ∧ x < L then (J e x.toNatClampNeg).toInt32 else -1
theorem f_byte_B {I : xI} {J : xJ} {a e : Nat} {x : Int32} (h1 : I a 1 = 2) (h3 : I a 3 = 0) (h4 : 0 ≤ I a 4) : f_byte I J a e x = bB J e (I a 4) x := by
  unfold f_byte bB
  rw [f_hasP_iff h1 h4, h3]
  grind
abbrev bOk (B : Int32 → Int32) (x : Int32) : Prop := 1 ≤ B x ∧ B x ≤ 9 ∧ 0 ≤ B (x + 1) ∧ B (x + 1) ≤ 9 ∧ 0 ≤ B (x + 2) ∧ B (x + 2) ≤ 99
def bl (B : Int32 → Int32) (i : Int32) : Nat → Nat → Nat → List (Int32 × Int32 × Int32)
  | 0, _, _ => []
  | n + 1, c, k => if bOk B (i + 3 * nI k) ∧ c < 10 then (B (i + 3 * nI k), B (i + 3 * nI k + 1), B (i + 3 * nI k + 2)) :: bl B i n (c + 1) (k + 1) else []
def addC (I : xI) : List (Int32 × Int32 × Int32) → xI
  | [] => I
  | x :: xs => addC (g_addBill I x.1 x.2.1 x.2.2) xs
def addM (I : xI) : List (Int32 × Int32 × Int32) → xI
  | [] => I
  | x :: xs => addM (mg_addBill I x.1 x.2.1 x.2.2) xs
theorem add_comm1 {I : xI} {x y : Int32 × Int32 × Int32} : mg_addBill (g_addBill I y.1 y.2.1 y.2.2) x.1 x.2.1 x.2.2 = g_addBill (mg_addBill I x.1 x.2.1 x.2.2) y.1 y.2.1 y.2.2 := by
  funext a b
  simp only [mg_addBill, g_addBill, xu]
  grind
theorem add_comm2 {x : Int32 × Int32 × Int32} : ∀ (ys : List (Int32 × Int32 × Int32)) (I : xI), mg_addBill (addC I ys) x.1 x.2.1 x.2.2 = addC (mg_addBill I x.1 x.2.1 x.2.2) ys
  | [], _ => rfl
  | y :: ys, I => by
    simp only [addC]
    rw [add_comm2 ys, add_comm1]
theorem inv_addBill {I : xI} {J : xJ} {l s w : Int32} (h : Inv I J) (hlt : I 1 2 < 10) (h1 : 0 ≤ l) (h2 : l ≤ 9) (h3 : 0 ≤ s) (h4 : s ≤ 9) (h5 : 0 ≤ w) (h6 : w ≤ 99) : Inv (mg_addBill (g_addBill I l s w) l s w) J := by
  obtain ⟨hh, hb, hse, hin, hch, hta, hle, him, hcl, hsh, hlw⟩ := id h
  obtain ⟨a1, a2, a3, a4, a5, a6⟩ := id hh
  have hk : (I 1 2).toNatClampNeg < 10 := clamp_lt' (N := 10) (by decide) a3 hlt
  have e1 : g_addBill I l s w 57 1 = I 1 2 := by simp [g_addBill, xu, a1]
  have eA : mg_addBill (g_addBill I l s w) l s w = xu (xu (xu (xu (g_addBill I l s w) 58 (I 1 2).toNatClampNeg l) 59 (I 1 2).toNatClampNeg s) 61 (I 1 2).toNatClampNeg w) 57 1 (I 1 2 + 1) := by unfold mg_addBill; rw [e1]
  rw [eA]
  unfold g_addBill
  generalize (I 1 2).toNatClampNeg = k at hk
  refine ⟨?_, ?_, ?_, ?_, ?_, ?_, ?_, ?_, ?_, ?_, ?_⟩
  · simp only [ivHouse, xu] at hh ⊢
    grind
  · intro b hb'
    have := hb b hb'
    simp only [xu]
    grind
  · intro b hb'
    have := hse b hb'
    simp only [xu]
    grind
  · simp only [ivInf, xu] at hin ⊢
    grind
  · exact ivChg_frame hch (by simp [xu_rowf]) (by simp [xu]) (by simp [xu]) (by simp [xu]; grind) (by simp [xu])
  · simp only [ivTape, xu] at hta ⊢
    grind
  · intro b hb'
    have := hle b hb'
    simp only [xu]
    grind
  · simp only [ivImg, xu] at him ⊢
    grind
  · simp only [ivCl, xu] at hcl ⊢
    grind
  · exact ivSh_frame hsh (fun s hs => by simp (disch := omega) only [xu_rowf]) (by simp [xu_rowf]) (by simp [xu_rowf]) (by simp [xu]) (fun _ _ => rfl) rfl
  · exact ivLaw_frame hlw (by simp [lawRows, xu, xu_rowf])
theorem inv_addAll {J : xJ} : ∀ (xs : List (Int32 × Int32 × Int32)) (I : xI) (c : Nat), Inv I J → I 1 2 = nI c → c + xs.length ≤ 10 → (∀ x ∈ xs, 0 ≤ x.1 ∧ x.1 ≤ 9 ∧ 0 ≤ x.2.1 ∧ x.2.1 ≤ 9 ∧ 0 ≤ x.2.2 ∧ x.2.2 ≤ 99) → Inv (addM (addC I xs) xs) J
  | [], _, _, h, _, _, _ => h
  | x :: xs, I, c, h, hc, hl, hx => by
    simp only [addC, addM]
    rw [add_comm2 xs]
    simp only [List.length_cons] at hl
    obtain ⟨q1, q2, q3, q4, q5, q6⟩ := hx x List.mem_cons_self
    have hlt : I 1 2 < 10 := by rw [hc]; exact nI_lt (b := 10) (by omega) (by omega)
    refine inv_addAll xs _ (c + 1) (inv_addBill h hlt q1 q2 q3 q4 q5 q6) ?_ (by omega) (fun y hy => hx y (List.mem_cons_of_mem _ hy))
    show I 1 2 + 1 = _
    rw [hc]
    exact nI_1 c
theorem bl_len {B : Int32 → Int32} {i : Int32} : ∀ n c k : Nat, c ≤ 10 → c + (bl B i n c k).length ≤ 10
  | 0, _, _, h => h
  | n + 1, c, k, h => by
    simp only [bl]
    by_cases q : bOk B (i + 3 * nI k) ∧ c < 10
    · rw [if_pos q]
      have := bl_len (B := B) (i := i) n (c + 1) (k + 1) (by omega)
      simp only [List.length_cons]
      omega
    · rw [if_neg q]; exact h
theorem bl_ok {B : Int32 → Int32} {i : Int32} : ∀ n c k : Nat, ∀ x ∈ bl B i n c k, 0 ≤ x.1 ∧ x.1 ≤ 9 ∧ 0 ≤ x.2.1 ∧ x.2.1 ≤ 9 ∧ 0 ≤ x.2.2 ∧ x.2.2 ≤ 99
  | 0, _, _, x, hx => by simp [bl] at hx
  | n + 1, c, k, x, hx => by
    simp only [bl] at hx
    by_cases q : bOk B (i + 3 * nI k) ∧ c < 10
    · rw [if_pos q] at hx
      rcases List.mem_cons.mp hx with rfl | hx
      · obtain ⟨q1, q2, q3, q4, q5, q6⟩ := q.1
        exact ⟨by grind, q2, q3, q4, q5, q6⟩
      · exact bl_ok n _ _ x hx
    · rw [if_neg q] at hx; simp at hx
section
variable {I : xI} {J : xJ} {a e : Nat}
theorem s_billComes_no (x : Int32) (hx : xSh a e) (hL60 : I a 1 = 2 → I a 4 ≤ 60) (hc0 : ¬ I 1 2 < 0) (hc : I 1 2 ≤ 10) (hn : ¬ (bOk (f_byte I J a e) x ∧ I 1 2 < 10)) : SpecF 3 M_X11_billComes [.ref 0, .ref a, .int x] xG1 I J (some (.int 0)) I J := by
  have m0 := may_0 (f_byte I J a e x)
  have m1 := may_1 (f_byte I J a e (x + 1))
  have m3 := may_3 (f_byte I J a e (x + 2))
  refine specF_of (L := [some (.ref 0), some (.ref a), some (.int x), none, none, none]) (by decide) (Nat.le_of_ble_eq_true rfl) rfl ?_
  refine iX11_billComes_0 (iX11_billComes_1 (iX11_billComes_2 (hx).1 (s_X9_byteAt _ hx hL60) (iX11_billComes_5 (iX11_billComes_6 (iX11_billComes_7 (iX11_billComes_8 (iX11_billComes_9 (iX11_billComes_10 (hx).1 (s_X9_byteAt _ hx hL60) (iX11_billComes_13 (iX11_billComes_15 (iX11_billComes_16 (iX11_billComes_17 (iX11_billComes_18 (iX11_billComes_19 (hx).1 (s_X9_byteAt _ hx hL60) (iX11_billComes_22 (iX11_billComes_24 (iX11_billComes_25 (iX11_billComes_26 (s_X5_may _ _) (iX11_billComes_29 (fun h29 => ?_) (fun h29 => ?_))))))))))))))))))))
  · refine iX11_billComes_41 (iX11_billComes_42 ?_)
    exact ⟨rfl, rfl, rfl, rfl⟩
  · refine iX11_billComes_32 (iX11_billComes_33 (iX11_billComes_35 (s_X5_may _ _) (iX11_billComes_38 (fun h38 => ?_) (fun h38 => ?_))))
    · refine iX11_billComes_43 (iX11_billComes_44 (iX11_billComes_46 (s_X5_may _ _) (iX11_billComes_49 (fun h49 => ?_) (fun h49 => ?_))))
      · refine iX11_billComes_71 (iX11_billComes_72 ?_)
        exact ⟨rfl, rfl, rfl, rfl⟩
      · have hfull : 10 ≤ I 1 2 := by simp only [f_in] at *; grind
        refine iX11_billComes_52 (iX11_billComes_53 (iX11_billComes_56 (iX11_billComes_57 (iX11_billComes_59 (iX11_billComes_61 (s_X5_addBill_full _ _ _ hfull) (iX11_billComes_64 (fun h64 => ?_) (fun h64 => absurd ((by decide : (-3 : Int32) < 0)) (by first | exact h64 | exact fun q => q h64))))))))
        refine iX11_billComes_71 (iX11_billComes_72 ?_)
        exact ⟨rfl, rfl, rfl, rfl⟩
    · refine iX11_billComes_41 (iX11_billComes_42 ?_)
      exact ⟨rfl, rfl, rfl, rfl⟩
theorem s_billComes_yes (x : Int32) (hx : xSh a e) (hL60 : I a 1 = 2 → I a 4 ≤ 60) (hc0 : ¬ I 1 2 < 0) (hc : I 1 2 < 10) (hn : bOk (f_byte I J a e) x) : SpecF 3 M_X11_billComes [.ref 0, .ref a, .int x] xG1 I J (some (.int 1)) (g_addBill I (f_byte I J a e x) (f_byte I J a e (x + 1)) (f_byte I J a e (x + 2))) J := by
  have m0 := may_0 (f_byte I J a e x)
  have m1 := may_1 (f_byte I J a e (x + 1))
  have m3 := may_3 (f_byte I J a e (x + 2))
  have n29 : ¬ f_may 0 (f_byte I J a e x) = 0 := by simp only [f_in] at *; grind
  have n38 : ¬ f_may 1 (f_byte I J a e (x + 1)) = 0 := by simp only [f_in] at *; grind
  have n49 : ¬ f_may 3 (f_byte I J a e (x + 2)) = 0 := by simp only [f_in] at *; grind
  refine specF_of (L := [some (.ref 0), some (.ref a), some (.int x), none, none, none]) (by decide) (Nat.le_of_ble_eq_true rfl) rfl ?_
  refine iX11_billComes_0 (iX11_billComes_1 (iX11_billComes_2 (hx).1 (s_X9_byteAt _ hx hL60) (iX11_billComes_5 (iX11_billComes_6 (iX11_billComes_7 (iX11_billComes_8 (iX11_billComes_9 (iX11_billComes_10 (hx).1 (s_X9_byteAt _ hx hL60) (iX11_billComes_13 (iX11_billComes_15 (iX11_billComes_16 (iX11_billComes_17 (iX11_billComes_18 (iX11_billComes_19 (hx).1 (s_X9_byteAt _ hx hL60) (iX11_billComes_22 (iX11_billComes_24 (iX11_billComes_25 (iX11_billComes_26 (s_X5_may _ _) (iX11_billComes_29 (fun h29 => absurd h29 (n29)) (fun h29 => ?_))))))))))))))))))))
  refine iX11_billComes_32 (iX11_billComes_33 (iX11_billComes_35 (s_X5_may _ _) (iX11_billComes_38 (fun h38 => ?_) (fun h38 => absurd (n38) (by first | exact h38 | exact fun q => q h38)))))
  refine iX11_billComes_43 (iX11_billComes_44 (iX11_billComes_46 (s_X5_may _ _) (iX11_billComes_49 (fun h49 => absurd h49 (n49)) (fun h49 => ?_))))
  refine iX11_billComes_52 (iX11_billComes_53 (iX11_billComes_56 (iX11_billComes_57 (iX11_billComes_59 (iX11_billComes_61 (s_X5_addBill_ok _ _ _ hc0 hc) (iX11_billComes_64 (fun h64 => absurd h64 (hc0)) (fun h64 => ?_)))))))
  refine iX11_billComes_67 (iX11_billComes_68 (iX11_billComes_72 ?_))
  exact ⟨rfl, rfl, rfl, rfl⟩
theorem bills_c {B : Int32 → Int32} {k' : Nat} {s i : Int32} {N : Nat} (hk : k' < 6) (es : s.toNatClampNeg = k') (hvs : vp_in s 6) (hN : N ≤ 10) : ∀ (m : Nat) (I : xI) (c k : Nat), k + m = N → c ≤ 10 → I 1 2 = nI c → (I (45 + 2 * k') 1 = 2 → I (45 + 2 * k') 4 ≤ 60) → (∀ x, f_byte I J (45 + 2 * k') (46 + 2 * k') x = B x) → WP 1000 (1000000, 0, 0) none M_X11_bills (fun r g I2 J2 => r = some (.int (nI (k + (bl B i m c k).length))) ∧ g = xG1 ∧ I2 = addC I (bl B i m c k) ∧ J2 = J) 53 [some (.ref 0), some (.int s), some (.int i), some (.int (nI N)), some (.int (nI k))] [] xG1 I J := by
  have hx := xSh_at hk
  intro m
  induction m with
  | zero =>
    intro I c k hkm hc10 hc hL hB
    obtain rfl : k = N := by omega
    refine iX11_bills_53 (iX11_bills_55 (iX11_bills_56 (fun h56 => ?_) (fun h56 => absurd (Int32.le_refl _) (by first | exact h56 | exact fun q => q h56))))
    refine iX11_bills_84 (iX11_bills_86 ?_)
    exact ⟨rfl, rfl, rfl, rfl⟩
  | succ m ih =>
    intro I c k hkm hc10 hc hL hB
    have hf : (fun x => f_byte I J (45 + 2 * k') (46 + 2 * k') x) = B := funext hB
    by_cases q : bOk B (i + 3 * nI k) ∧ c < 10
    · have hlt : I 1 2 < 10 := by rw [hc]; exact nI_lt (b := 10) (by omega) (by omega)
      have sp := s_billComes_yes (I := I) (J := J) (i + 3 * nI k) hx hL (by rw [hc]; exact nI_pos (by omega)) hlt (by rw [show f_byte I J (45 + 2 * k') (46 + 2 * k') = B from hf]; exact q.1)
      rw [hB, hB, hB] at sp
      have eb : bl B i (m + 1) c k = (B (i + 3 * nI k), B (i + 3 * nI k + 1), B (i + 3 * nI k + 2)) :: bl B i m (c + 1) (k + 1) := by simp only [bl]; rw [if_pos q]
      rw [eb]
      have hr : ∀ b, g_addBill I (B (i + 3 * nI k)) (B (i + 3 * nI k + 1)) (B (i + 3 * nI k + 2)) (45 + 2 * k') b = I (45 + 2 * k') b := fun b => by
        unfold g_addBill
        rw [xu_row (by omega), xu_row (by omega), xu_row (by omega), xu_row (by omega)]
      refine iX11_bills_53 (iX11_bills_55 (iX11_bills_56 (fun h56 => absurd h56 (nI_ge (by omega) (by omega))) (fun h56 => ?_)))
      refine iX11_bills_59 (iX11_bills_60 (iX11_bills_61 (iX11_bills_64 (iX11_bills_65 hvs (by rw [es]; exact (shelf_at hk).1) (iX11_bills_66 (iX11_bills_67 (iX11_bills_68 (iX11_bills_70 (iX11_bills_71 (iX11_bills_72 sp (iX11_bills_75 (fun h75 => absurd h75 (by decide)) (fun h75 => ?_))))))))))))
      refine iX11_bills_78 (iX11_bills_81 ?_)
      have e1 : nI k + (1) = nI (k + 1) := nI_1 _
      rw [e1]
      have := ih (g_addBill I (B (i + 3 * nI k)) (B (i + 3 * nI k + 1)) (B (i + 3 * nI k + 2))) (c + 1) (k + 1) (by omega) (by omega) (by show I 1 2 + 1 = _; rw [hc]; exact nI_1 c) (by rw [hr, hr]; exact hL) (fun x => by rw [← hB x]; unfold f_byte f_hasP; rw [hr, hr, hr])
      rw [show k + ((B (i + 3 * nI k), B (i + 3 * nI k + 1), B (i + 3 * nI k + 2)) :: bl B i m (c + 1) (k + 1)).length = k + 1 + (bl B i m (c + 1) (k + 1)).length by simp only [List.length_cons]; omega]
      exact this
    · have eb : bl B i (m + 1) c k = [] := by simp only [bl]; rw [if_neg q]
      rw [eb]
      have sp := s_billComes_no (I := I) (J := J) (i + 3 * nI k) hx hL (by rw [hc]; exact nI_pos (by omega)) (by rw [hc]; exact nI_le (b := 10) (by omega) (by omega)) (by rw [show f_byte I J (45 + 2 * k') (46 + 2 * k') = B from hf, hc]; rintro ⟨w1, w2⟩; exact q ⟨w1, (nI_ltI (by omega) (by omega)).mp w2⟩)
      refine iX11_bills_53 (iX11_bills_55 (iX11_bills_56 (fun h56 => absurd h56 (nI_ge (by omega) (by omega))) (fun h56 => ?_)))
      refine iX11_bills_59 (iX11_bills_60 (iX11_bills_61 (iX11_bills_64 (iX11_bills_65 hvs (by rw [es]; exact (shelf_at hk).1) (iX11_bills_66 (iX11_bills_67 (iX11_bills_68 (iX11_bills_70 (iX11_bills_71 (iX11_bills_72 sp (iX11_bills_75 (fun h75 => ?_) (fun h75 => absurd (rfl) (by first | exact h75 | exact fun q => q h75)))))))))))))
      refine iX11_bills_84 (iX11_bills_86 ?_)
      exact ⟨rfl, rfl, rfl, rfl⟩
theorem lgc_lt {x y : Int64} : lg_cmp x y < 0 ↔ x < y := by
  unfold lg_cmp
  grind
theorem lgc_ge {x y : Int64} : 0 ≤ lg_cmp x y ↔ ¬ x < y := by
  unfold lg_cmp
  grind
theorem at_toInt {i : Int32} {k : Nat} (hk : k ≤ 10) : (i.toInt64 + (3 * nI k).toInt64).toInt = i.toInt + 3 * (k : Int) := by
  have e1 : (3 * nI k).toInt = 3 * (k : Int) := by
    have : (3 : Int32) * nI k = nI (3 * k) := pk_mul 3 k
    rw [this, nI_toInt (by omega)]
    omega
  have h1 := Int32.minValue_le_toInt i
  have h2 := Int32.toInt_lt i
  rw [Int64.toInt_add, Int32.toInt_toInt64, Int32.toInt_toInt64, e1, Int.bmod_def]
  have : Int32.minValue.toInt = -2147483648 := by decide
  omega
theorem at_x {i : Int32} {k : Nat} (hk : k ≤ 10) : (i + 3 * nI k).toInt = (i.toInt + 3 * (k : Int)).bmod 4294967296 := by
  have e1 : (3 * nI k).toInt = 3 * (k : Int) := by
    have : (3 : Int32) * nI k = nI (3 * k) := pk_mul 3 k
    rw [this, nI_toInt (by omega)]
    omega
  rw [Int32.toInt_add, e1]
/-- the model's place of a three is the class's -/
theorem at_iff {i : Int32} {k l : Nat} (hk : k ≤ 10) (hl : l ≤ 60) : (¬ lg_cmp (i.toInt64 + (3 * nI k).toInt64) 0 < 0 ∧ ¬ 0 ≤ lg_cmp (i.toInt64 + (3 * nI k).toInt64 + 2) (nI l).toInt64) ↔ ∃ y : Nat, y + 2 < l ∧ i + 3 * nI k = nI y := by
  have ht := at_toInt (i := i) hk
  rw [lgc_lt, lgc_ge, Decidable.not_not, Int64.lt_iff_toInt_lt, Int64.lt_iff_toInt_lt, ht, Int64.toInt_add (_ + _), ht, Int32.toInt_toInt64 (nI l), nI_toInt (by omega)]
  have h1 := Int32.minValue_le_toInt i
  have h2 := Int32.toInt_lt i
  have hm : Int32.minValue.toInt = -2147483648 := by decide
  have e0 : (0 : Int64).toInt = 0 := by decide
  have e2 : (2 : Int64).toInt = 2 := by decide
  have hb : (i.toInt + 3 * (k : Int) + 2).bmod (2 ^ 64) = i.toInt + 3 * (k : Int) + 2 := by
    rw [Int.bmod_def]
    omega
  rw [e0, e2, hb]
  constructor
  · rintro ⟨q1, q2⟩
    refine ⟨(i.toInt + 3 * (k : Int)).toNat, by omega, ?_⟩
    apply Int32.toInt_inj.mp
    rw [at_x hk, nI_toInt (by omega), Int.bmod_def]
    omega
  · rintro ⟨y, q1, q2⟩
    have := congrArg Int32.toInt q2
    rw [at_x hk, nI_toInt (by omega), Int.bmod_def] at this
    omega
theorem at_i {i : Int32} {k y : Nat} (hk : k ≤ 10) (hy : y < 100) (h : i + 3 * nI k = nI y) : (i.toInt64 + (3 * nI k).toInt64).toInt32 = nI y := by
  rw [Int64.toInt32_add, Int32.toInt32_toInt64, Int32.toInt32_toInt64]
  exact h
theorem bB_pos {J : xJ} {e l : Nat} {x : Int32} (hl : l ≤ 60) (h : 0 ≤ bB J e (nI l) x) : ∃ y : Nat, y < l ∧ x = nI y := by
  unfold bB at h
  by_cases q : 0 ≤ x ∧ x < nI l
  · obtain ⟨y, hy, rfl⟩ := nI_of (x := x) (by grind)
    exact ⟨y, (nI_ltI (by omega) (by omega)).mp q.2, rfl⟩
  · rw [if_neg q] at h; exact absurd h (by decide)
theorem bB_at {J : xJ} {e l y : Nat} (hl : l ≤ 60) (h : y < l) : bB J e (nI l) (nI y) = (J e y).toInt32 := by
  unfold bB
  rw [if_pos ⟨nI_pos' (by omega), nI_lt h (by omega)⟩, nI_clamp (by omega)]
theorem bOk_at {J : xJ} {e l : Nat} {x : Int32} (hl : l ≤ 60) (h : bOk (bB J e (nI l)) x) : ∃ y : Nat, y + 2 < l ∧ x = nI y := by
  obtain ⟨h1, h2, h3, h4, h5, h6⟩ := h
  have h1' : 0 ≤ bB J e (nI l) x := by grind
  obtain ⟨y, hy, rfl⟩ := bB_pos (x := x) hl h1'
  obtain ⟨z, hz, ez⟩ := bB_pos hl h5
  have : nI y + 2 = nI (y + 2) := nI_add y 2
  rw [this] at ez
  have := (nI_eq (by omega) (by omega)).mp ez
  exact ⟨y, by omega, rfl⟩
theorem bills_m {k' l : Nat} {s i : Int32} {N : Nat} (hk : k' < 6) (es : nI k' = s) (hN : N ≤ 10) (hl : l ≤ 60) (he : ∀ j : Nat, j < 60 → J 89 (60 * k' + j) = J (46 + 2 * k') j) : ∀ (m : Nat) (I : xI) (c k : Nat), k + m = N → c ≤ 10 → I 57 1 = nI c → I 88 k' = nI l → ∀ a5 a6 a7, WP 1000 (1000000, 0, 0) none M_X12_bills (fun r g I2 J2 => r = some (.int (nI (k + (bl (bB J (46 + 2 * k') (nI l)) i m c k).length))) ∧ g = xG1 ∧ I2 = addM I (bl (bB J (46 + 2 * k') (nI l)) i m c k) ∧ J2 = J) 58 [some (.ref 57), some (.int s), some (.int i), some (.int (nI N)), some (.int (nI k)), a5, a6, a7] [] xG1 I J := by
  subst es
  have hvs : vp_in (nI k') 6 := vp_in_nI hk (by omega)
  have esk : (nI k').toNatClampNeg = k' := nI_clamp (by omega)
  intro m
  induction m with
  | zero =>
    intro I c k hkm hc10 hc hL a5 a6 a7
    obtain rfl : k = N := by omega
    refine iX12_bills_58 (iX12_bills_60 (iX12_bills_61 (fun h61 => ?_) (fun h61 => absurd (Int32.le_refl _) (by first | exact h61 | exact fun q => q h61))))
    refine iX12_bills_217 (iX12_bills_218 ?_)
    exact ⟨rfl, rfl, rfl, rfl⟩
  | succ m ih =>
    intro I c k hkm hc10 hc hL a5 a6 a7
    have hat := @at_iff i k l (by omega) hl
    have hL2 : I 88 (nI k').toNatClampNeg = nI l := by rw [esk, hL]
    have hin : ∀ y : Nat, y + 2 < l → i + 3 * nI k = nI y → 60 * nI k' + (i.toInt64 + (3 * nI k).toInt64).toInt32 = nI (60 * k' + y) ∧ (J 89 (nI (60 * k' + y)).toNatClampNeg).toInt32 = bB J (46 + 2 * k') (nI l) (i + 3 * nI k) ∧ (J 89 (nI (60 * k' + y) + 1).toNatClampNeg).toInt32 = bB J (46 + 2 * k') (nI l) (i + 3 * nI k + 1) ∧ (J 89 (nI (60 * k' + y) + 2).toNatClampNeg).toInt32 = bB J (46 + 2 * k') (nI l) (i + 3 * nI k + 2) ∧ vp_in (nI (60 * k' + y)) 360 ∧ vp_in (nI (60 * k' + y) + 1) 360 ∧ vp_in (nI (60 * k' + y) + 2) 360 := by
      intro y hy ey
      have g1 : nI (60 * k' + y) + 1 = nI (60 * k' + (y + 1)) := nI_add _ 1
      have g2 : nI (60 * k' + y) + 2 = nI (60 * k' + (y + 2)) := nI_add _ 2
      have g3 : nI y + 1 = nI (y + 1) := nI_add _ 1
      have g4 : nI y + 2 = nI (y + 2) := nI_add _ 2
      have g5 : (60 : Int32) * nI k' = nI (60 * k') := pk_mul 60 k'
      rw [at_i (by omega) (by omega) ey, ey, g1, g2, g3, g4, g5, nI_add, bB_at hl (by omega), bB_at hl (by omega), bB_at hl (by omega), nI_clamp (by omega), nI_clamp (by omega), nI_clamp (by omega), he _ (by omega), he _ (by omega), he _ (by omega)]
      exact ⟨rfl, rfl, rfl, rfl, vp_in_nI (by omega) (by omega), vp_in_nI (by omega) (by omega), vp_in_nI (by omega) (by omega)⟩
    by_cases q : bOk (bB J (46 + 2 * k') (nI l)) (i + 3 * nI k) ∧ c < 10
    · obtain ⟨y, hy, ey⟩ := bOk_at hl q.1
      obtain ⟨hE, v0, v1, v2, w0, w1, w2⟩ := hin y hy ey
      obtain ⟨p78, p95⟩ := hat.mpr ⟨y, hy, ey⟩
      rw [← hL2] at p95
      have p104 : ¬ I 57 1 = 10 := by rw [hc]; intro w; exact absurd ((nI_eq (b := 10) (by omega) (by omega)).mp w) (by omega)
      obtain ⟨b1, b2, b3, b4, b5, b6⟩ := q.1
      have p134 : ¬ f_in (J 89 (nI (60 * k' + y)).toNatClampNeg).toInt32 1 9 = 0 := by rw [v0, f_in_1 b1 b2]; decide
      have p153 : ¬ f_in (J 89 (nI (60 * k' + y) + 1).toNatClampNeg).toInt32 0 9 = 0 := by rw [v1, f_in_1 b3 b4]; decide
      have p172 : ¬ f_in (J 89 (nI (60 * k' + y) + 2).toNatClampNeg).toInt32 0 99 = 0 := by rw [v2, f_in_1 b5 b6]; decide
      have eb : bl (bB J (46 + 2 * k') (nI l)) i (m + 1) c k = (bB J (46 + 2 * k') (nI l) (i + 3 * nI k), bB J (46 + 2 * k') (nI l) (i + 3 * nI k + 1), bB J (46 + 2 * k') (nI l) (i + 3 * nI k + 2)) :: bl (bB J (46 + 2 * k') (nI l)) i m (c + 1) (k + 1) := by simp only [bl]; rw [if_pos q]
      rw [eb]
      have a0 : ¬ I 57 1 < 0 := by rw [hc]; exact nI_pos (by omega)
      have a1 : I 57 1 < 10 := by rw [hc]; exact nI_lt (b := 10) (by omega) (by omega)
      refine iX12_bills_58 (iX12_bills_60 (iX12_bills_61 (fun h61 => absurd h61 (nI_ge (by omega) (by omega))) (fun h61 => ?_)))
      refine iX12_bills_64 (iX12_bills_65 (iX12_bills_66 (iX12_bills_67 (iX12_bills_69 (iX12_bills_70 (iX12_bills_71 (iX12_bills_72 (iX12_bills_74 (iX12_bills_76 (iX12_bills_77 (iX12_bills_78 (fun h78 => absurd h78 (p78)) (fun h78 => ?_))))))))))))
      refine iX12_bills_81 (iX12_bills_83 (iX12_bills_86 (iX12_bills_87 (iX12_bills_88 (iX12_bills_91 (iX12_bills_92 hvs (iX12_bills_93 (iX12_bills_94 (iX12_bills_95 (fun h95 => absurd h95 (p95)) (fun h95 => ?_))))))))))
      refine iX12_bills_98 (iX12_bills_99 (iX12_bills_102 (iX12_bills_104 (fun h104 => ?_) (fun h104 => absurd (p104) (by first | exact h104 | exact fun q => q h104)))))
      refine iX12_bills_110 (iX12_bills_112 (iX12_bills_113 (iX12_bills_114 (iX12_bills_116 (iX12_bills_117 ?_)))))
      rw [hE]
      refine iX12_bills_118 (iX12_bills_120 (iX12_bills_121 (iX12_bills_124 (iX12_bills_126 w0 (iX12_bills_127 (iX12_bills_128 (iX12_bills_129 (iX12_bills_131 (s_X12_in _ _ _) (iX12_bills_134 (fun h134 => absurd h134 (p134)) (fun h134 => ?_))))))))))
      refine iX12_bills_137 (iX12_bills_138 (iX12_bills_141 (iX12_bills_143 (iX12_bills_144 (iX12_bills_145 w1 (iX12_bills_146 (iX12_bills_147 (iX12_bills_148 (iX12_bills_150 (s_X12_in _ _ _) (iX12_bills_153 (fun h153 => absurd h153 (p153)) (fun h153 => ?_)))))))))))
      refine iX12_bills_156 (iX12_bills_157 (iX12_bills_160 (iX12_bills_162 (iX12_bills_163 (iX12_bills_164 w2 (iX12_bills_165 (iX12_bills_166 (iX12_bills_167 (iX12_bills_169 (s_X12_in _ _ _) (iX12_bills_172 (fun h172 => ?_) (fun h172 => absurd (p172) (by first | exact h172 | exact fun q => q h172))))))))))))
      refine iX12_bills_178 (iX12_bills_179 (iX12_bills_180 (iX12_bills_183 (iX12_bills_185 w0 (iX12_bills_186 (iX12_bills_187 (iX12_bills_188 (iX12_bills_191 (iX12_bills_193 (iX12_bills_194 (iX12_bills_195 w1 (iX12_bills_196 (iX12_bills_197 (iX12_bills_198 (iX12_bills_201 (iX12_bills_203 (iX12_bills_204 (iX12_bills_205 w2 (iX12_bills_206 ?_)))))))))))))))))))
      rw [v0, v1, v2]
      refine iX12_bills_207 (s_X12_addBill _ _ _ a0 a1) (iX12_bills_210 (iX12_bills_211 (iX12_bills_214 ?_)))
      have e1 : nI k + (1) = nI (k + 1) := nI_1 _
      rw [e1]
      have := ih (mg_addBill I (bB J (46 + 2 * k') (nI l) (i + 3 * nI k)) (bB J (46 + 2 * k') (nI l) (i + 3 * nI k + 1)) (bB J (46 + 2 * k') (nI l) (i + 3 * nI k + 2))) (c + 1) (k + 1) (by omega) (by omega) (by show I 57 1 + 1 = _; rw [hc]; exact nI_1 c) hL
      rw [show k + ((bB J (46 + 2 * k') (nI l) (i + 3 * nI k), bB J (46 + 2 * k') (nI l) (i + 3 * nI k + 1), bB J (46 + 2 * k') (nI l) (i + 3 * nI k + 2)) :: bl (bB J (46 + 2 * k') (nI l)) i m (c + 1) (k + 1)).length = k + 1 + (bl (bB J (46 + 2 * k') (nI l)) i m (c + 1) (k + 1)).length by simp only [List.length_cons]; omega]
      exact this _ _ _
    · have eb : bl (bB J (46 + 2 * k') (nI l)) i (m + 1) c k = [] := by simp only [bl]; rw [if_neg q]
      rw [eb]
      refine iX12_bills_58 (iX12_bills_60 (iX12_bills_61 (fun h61 => absurd h61 (nI_ge (by omega) (by omega))) (fun h61 => ?_)))
      refine iX12_bills_64 (iX12_bills_65 (iX12_bills_66 (iX12_bills_67 (iX12_bills_69 (iX12_bills_70 (iX12_bills_71 (iX12_bills_72 (iX12_bills_74 (iX12_bills_76 (iX12_bills_77 (iX12_bills_78 (fun h78 => ?_) (fun h78 => ?_))))))))))))
      · refine iX12_bills_107 (iX12_bills_109 ?_)
        exact ⟨rfl, rfl, rfl, rfl⟩
      · refine iX12_bills_81 (iX12_bills_83 (iX12_bills_86 (iX12_bills_87 (iX12_bills_88 (iX12_bills_91 (iX12_bills_92 hvs (iX12_bills_93 (iX12_bills_94 (iX12_bills_95 (fun h95 => ?_) (fun h95 => ?_))))))))))
        · refine iX12_bills_107 (iX12_bills_109 ?_)
          exact ⟨rfl, rfl, rfl, rfl⟩
        · refine iX12_bills_98 (iX12_bills_99 (iX12_bills_102 (iX12_bills_104 (fun h104 => ?_) (fun h104 => ?_))))
          · rw [hL2] at h95
            obtain ⟨y, hy, ey⟩ := hat.mp ⟨h78, h95⟩
            obtain ⟨hE, v0, v1, v2, w0, w1, w2⟩ := hin y hy ey
            have hc9 : c < 10 := by rcases Nat.lt_or_ge c 10 with w | w; exact w; exact absurd (by rw [hc, show c = 10 by omega]; rfl) h104
            refine iX12_bills_110 (iX12_bills_112 (iX12_bills_113 (iX12_bills_114 (iX12_bills_116 (iX12_bills_117 ?_)))))
            rw [hE]
            refine iX12_bills_118 (iX12_bills_120 (iX12_bills_121 (iX12_bills_124 (iX12_bills_126 w0 (iX12_bills_127 (iX12_bills_128 (iX12_bills_129 (iX12_bills_131 (s_X12_in _ _ _) (iX12_bills_134 (fun h134 => ?_) (fun h134 => ?_))))))))))
            · refine iX12_bills_175 (iX12_bills_177 ?_)
              exact ⟨rfl, rfl, rfl, rfl⟩
            · refine iX12_bills_137 (iX12_bills_138 (iX12_bills_141 (iX12_bills_143 (iX12_bills_144 (iX12_bills_145 w1 (iX12_bills_146 (iX12_bills_147 (iX12_bills_148 (iX12_bills_150 (s_X12_in _ _ _) (iX12_bills_153 (fun h153 => ?_) (fun h153 => ?_)))))))))))
              · refine iX12_bills_175 (iX12_bills_177 ?_)
                exact ⟨rfl, rfl, rfl, rfl⟩
              · refine iX12_bills_156 (iX12_bills_157 (iX12_bills_160 (iX12_bills_162 (iX12_bills_163 (iX12_bills_164 w2 (iX12_bills_165 (iX12_bills_166 (iX12_bills_167 (iX12_bills_169 (s_X12_in _ _ _) (iX12_bills_172 (fun h172 => ?_) (fun h172 => ?_)))))))))))
                · exfalso
                  have r0 := f_in_p h134
                  have r1 := f_in_p h153
                  have r2 := f_in_p h172
                  rw [v0] at r0
                  rw [v1] at r1
                  rw [v2] at r2
                  exact q ⟨⟨r0.1, r0.2, r1.1, r1.2, r2.1, r2.2⟩, hc9⟩
                · refine iX12_bills_175 (iX12_bills_177 ?_)
                  exact ⟨rfl, rfl, rfl, rfl⟩
          · refine iX12_bills_107 (iX12_bills_109 ?_)
            exact ⟨rfl, rfl, rfl, rfl⟩
end
theorem addC_row : ∀ (xs : List (Int32 × Int32 × Int32)) (I : xI) (a b : Nat), (a = 57 ∨ 17 ≤ a) → addC I xs a b = I a b
  | [], _, _, _, _ => rfl
  | x :: xs, I, a, b, h => by
    simp only [addC]
    rw [addC_row xs _ a b h]
    unfold g_addBill
    rw [xu_row (by omega), xu_row (by omega), xu_row (by omega), xu_row (by omega)]
theorem pp_bills : PP_bills Inv := by
  intro I J h s i n
  obtain ⟨hh, hb, hse, hin, hch, hta, hle, him, hcl, hsh, hlw⟩ := id h
  obtain ⟨a1, a2, a3, a4, a5, a6⟩ := id hh
  by_cases hbad : f_in s 0 5 = 0 ∨ n < 1 ∨ 10 < n
  · refine pair_of (v := -1) (v' := -1) (I1 := I) (I2 := I) (J1 := J) (J2 := J) ?_ ?_ rfl h
    · refine specF_of (L := [some (.ref 0), some (.int s), some (.int i), some (.int n), none]) (by decide) (Nat.le_of_ble_eq_true rfl) rfl ?_
      refine iX11_bills_0 (iX11_bills_1 (iX11_bills_2 (s_X11_isShelf _) (iX11_bills_5 (fun h5 => ?_) (fun h5 => ?_))))
      · refine iX11_bills_19 (iX11_bills_20 ?_)
        first | exact ⟨rfl, rfl, rfl, rfl⟩ | (exfalso; (try simp only [f_in] at *); grind)
      · refine iX11_bills_8 (iX11_bills_9 (iX11_bills_10 (fun h10 => ?_) (fun h10 => ?_)))
        · refine iX11_bills_19 (iX11_bills_20 ?_)
          first | exact ⟨rfl, rfl, rfl, rfl⟩ | (exfalso; (try simp only [f_in] at *); grind)
        · refine iX11_bills_13 (iX11_bills_14 (iX11_bills_16 (fun h16 => ?_) (fun h16 => ?_)))
          · exfalso
            simp only [f_in] at *
            grind
          · refine iX11_bills_19 (iX11_bills_20 ?_)
            first | exact ⟨rfl, rfl, rfl, rfl⟩ | (exfalso; (try simp only [f_in] at *); grind)
    · refine specF_of (L := [some (.ref 57), some (.int s), some (.int i), some (.int n), none, none, none, none]) (by decide) (Nat.le_of_ble_eq_true rfl) rfl ?_
      refine iX12_bills_0 (iX12_bills_1 (s_X12_isShelf _) (iX12_bills_4 (fun h4 => ?_) (fun h4 => ?_)))
      · refine iX12_bills_17 (iX12_bills_18 ?_)
        first | exact ⟨rfl, rfl, rfl, rfl⟩ | (exfalso; (try simp only [f_in] at *); grind)
      · refine iX12_bills_7 (iX12_bills_8 (iX12_bills_9 (iX12_bills_11 (s_X12_in _ _ _) (iX12_bills_14 (fun h14 => ?_) (fun h14 => ?_)))))
        · exfalso
          simp only [f_in] at *
          grind
        · refine iX12_bills_17 (iX12_bills_18 ?_)
          first | exact ⟨rfl, rfl, rfl, rfl⟩ | (exfalso; (try simp only [f_in] at *); grind)
  have n5 : ¬ f_in s 0 5 = 0 := by grind
  have hs := f_in_p n5
  have hk : s.toNatClampNeg < 6 := clamp_lt' (N := 6) (by decide) hs.1 (by grind)
  have hvs : vp_in s 6 := vin 6 (by decide) (by grind) (by grind)
  have hx := xSh_at hk
  have hkk := clamp_nI hs.1
  have c10 : ¬ n < 1 := by grind
  have c16 : n ≤ 10 := by grind
  have m14 : ¬ f_in n 1 10 = 0 := by rw [f_in_1 (by grind) c16]; decide
  rcases hsh _ hk with ⟨q1, q2⟩ | ⟨q1, q2, q3, q4⟩ | ⟨q1, q2, q3, q4, q5, q6, q7, q8⟩
  · have e30 : ¬ (if I (45 + 2 * s.toNatClampNeg) 1 = 0 then (1 : Int32) else 0) = 0 := by rw [if_pos q1]; decide
    refine pair_of (v := 0) (v' := 0) (I1 := I) (I2 := I) (J1 := J) (J2 := J) ?_ ?_ rfl h
    · refine specF_of (L := [some (.ref 0), some (.int s), some (.int i), some (.int n), none]) (by decide) (Nat.le_of_ble_eq_true rfl) rfl ?_
      refine iX11_bills_0 (iX11_bills_1 (iX11_bills_2 (s_X11_isShelf _) (iX11_bills_5 (fun h5 => absurd h5 (n5)) (fun h5 => ?_))))
      refine iX11_bills_8 (iX11_bills_9 (iX11_bills_10 (fun h10 => absurd h10 (c10)) (fun h10 => ?_)))
      refine iX11_bills_13 (iX11_bills_14 (iX11_bills_16 (fun h16 => ?_) (fun h16 => absurd (c16) (by first | exact h16 | exact fun q => q h16))))
      refine iX11_bills_21 (iX11_bills_22 (iX11_bills_25 (iX11_bills_26 hvs (shelf_at hk).1 (iX11_bills_27 (hx).1 (s_X9_isEmpty hx) (iX11_bills_30 (fun h30 => absurd h30 (e30)) (fun h30 => ?_))))))
      refine iX11_bills_33 (iX11_bills_34 ?_)
      first | exact ⟨rfl, rfl, rfl, rfl⟩ | (exfalso; (try simp only [f_in] at *); grind)
    · refine specF_of (L := [some (.ref 57), some (.int s), some (.int i), some (.int n), none, none, none, none]) (by decide) (Nat.le_of_ble_eq_true rfl) rfl ?_
      refine iX12_bills_0 (iX12_bills_1 (s_X12_isShelf _) (iX12_bills_4 (fun h4 => absurd h4 (n5)) (fun h4 => ?_)))
      refine iX12_bills_7 (iX12_bills_8 (iX12_bills_9 (iX12_bills_11 (s_X12_in _ _ _) (iX12_bills_14 (fun h14 => ?_) (fun h14 => absurd (m14) (by first | exact h14 | exact fun q => q h14))))))
      refine iX12_bills_19 (iX12_bills_20 (iX12_bills_23 (iX12_bills_24 hvs (iX12_bills_25 (iX12_bills_26 (fun h26 => ?_) (fun h26 => absurd (q2) (by first | exact h26 | exact fun q => q h26)))))))
      refine iX12_bills_43 (iX12_bills_44 (iX12_bills_47 (iX12_bills_48 hvs (iX12_bills_49 (iX12_bills_50 (fun h50 => absurd h50 (fun q => q q2)) (fun h50 => ?_))))))
      refine iX12_bills_53 (iX12_bills_54 ?_)
      first | exact ⟨rfl, rfl, rfl, rfl⟩ | (exfalso; (try simp only [f_in] at *); grind)
  · have e30 : (if I (45 + 2 * s.toNatClampNeg) 1 = 0 then (1 : Int32) else 0) = 0 := by rw [q1]; rfl
    have e44 : ¬ f_refB I (45 + 2 * s.toNatClampNeg) = 0 := by unfold f_refB; rw [q1, if_neg (by decide), if_neg (fun w => absurd w.1 (by decide))]; decide
    have m26 : ¬ I 87 s.toNatClampNeg = -1 := by rw [q2]; grind
    have m37 : ¬ I 87 s.toNatClampNeg = -2 := by rw [q2]; grind
    refine pair_of (v := -12) (v' := -12) (I1 := I) (I2 := I) (J1 := J) (J2 := J) ?_ ?_ rfl h
    · refine specF_of (L := [some (.ref 0), some (.int s), some (.int i), some (.int n), none]) (by decide) (Nat.le_of_ble_eq_true rfl) rfl ?_
      refine iX11_bills_0 (iX11_bills_1 (iX11_bills_2 (s_X11_isShelf _) (iX11_bills_5 (fun h5 => absurd h5 (n5)) (fun h5 => ?_))))
      refine iX11_bills_8 (iX11_bills_9 (iX11_bills_10 (fun h10 => absurd h10 (c10)) (fun h10 => ?_)))
      refine iX11_bills_13 (iX11_bills_14 (iX11_bills_16 (fun h16 => ?_) (fun h16 => absurd (c16) (by first | exact h16 | exact fun q => q h16))))
      refine iX11_bills_21 (iX11_bills_22 (iX11_bills_25 (iX11_bills_26 hvs (shelf_at hk).1 (iX11_bills_27 (hx).1 (s_X9_isEmpty hx) (iX11_bills_30 (fun h30 => ?_) (fun h30 => absurd (e30) (by first | exact h30 | exact fun q => q h30)))))))
      refine iX11_bills_35 (iX11_bills_36 (iX11_bills_39 (iX11_bills_40 hvs (shelf_at hk).1 (iX11_bills_41 (hx).1 (s_X9_refusalOfBytes hx) (iX11_bills_44 (fun h44 => absurd h44 (e44)) (fun h44 => ?_))))))
      refine iX11_bills_47 (iX11_bills_49 ?_)
      first | exact ⟨rfl, rfl, rfl, rfl⟩ | (exfalso; (try simp only [f_in] at *); grind)
    · refine specF_of (L := [some (.ref 57), some (.int s), some (.int i), some (.int n), none, none, none, none]) (by decide) (Nat.le_of_ble_eq_true rfl) rfl ?_
      refine iX12_bills_0 (iX12_bills_1 (s_X12_isShelf _) (iX12_bills_4 (fun h4 => absurd h4 (n5)) (fun h4 => ?_)))
      refine iX12_bills_7 (iX12_bills_8 (iX12_bills_9 (iX12_bills_11 (s_X12_in _ _ _) (iX12_bills_14 (fun h14 => ?_) (fun h14 => absurd (m14) (by first | exact h14 | exact fun q => q h14))))))
      refine iX12_bills_19 (iX12_bills_20 (iX12_bills_23 (iX12_bills_24 hvs (iX12_bills_25 (iX12_bills_26 (fun h26 => absurd h26 (m26)) (fun h26 => ?_))))))
      refine iX12_bills_29 (iX12_bills_30 (iX12_bills_33 (iX12_bills_34 hvs (iX12_bills_35 (iX12_bills_37 (fun h37 => absurd h37 (m37)) (fun h37 => ?_))))))
      refine iX12_bills_40 (iX12_bills_42 ?_)
      first | exact ⟨rfl, rfl, rfl, rfl⟩ | (exfalso; (try simp only [f_in] at *); grind)
  · have e30 : (if I (45 + 2 * s.toNatClampNeg) 1 = 0 then (1 : Int32) else 0) = 0 := by rw [q1]; rfl
    have m1 : ∀ t : Nat, t < 5 → ¬ -2 - nI t = -1 ∧ (-2 - nI t = -2 ↔ nI t = 0) := by decide +kernel
    obtain ⟨t, ht, et⟩ := nI_of2 (x := I (45 + 2 * s.toNatClampNeg) 3) (M := 4) (n := 4) (by decide) (by grind) q4
    have mt := m1 t (by omega)
    have m26 : ¬ I 87 s.toNatClampNeg = -1 := by rw [q2, et]; exact mt.1
    by_cases hb0 : I (45 + 2 * s.toNatClampNeg) 3 = 0
    case neg =>
      have e44 : ¬ f_refB I (45 + 2 * s.toNatClampNeg) = 0 := by unfold f_refB; rw [q1, if_neg (by decide), if_neg (fun w => hb0 w.2)]; decide
      have m37 : ¬ I 87 s.toNatClampNeg = -2 := by rw [q2, et]; intro w; exact hb0 (by rw [et]; exact mt.2.mp w)
      refine pair_of (v := -12) (v' := -12) (I1 := I) (I2 := I) (J1 := J) (J2 := J) ?_ ?_ rfl h
      · refine specF_of (L := [some (.ref 0), some (.int s), some (.int i), some (.int n), none]) (by decide) (Nat.le_of_ble_eq_true rfl) rfl ?_
        refine iX11_bills_0 (iX11_bills_1 (iX11_bills_2 (s_X11_isShelf _) (iX11_bills_5 (fun h5 => absurd h5 (n5)) (fun h5 => ?_))))
        refine iX11_bills_8 (iX11_bills_9 (iX11_bills_10 (fun h10 => absurd h10 (c10)) (fun h10 => ?_)))
        refine iX11_bills_13 (iX11_bills_14 (iX11_bills_16 (fun h16 => ?_) (fun h16 => absurd (c16) (by first | exact h16 | exact fun q => q h16))))
        refine iX11_bills_21 (iX11_bills_22 (iX11_bills_25 (iX11_bills_26 hvs (shelf_at hk).1 (iX11_bills_27 (hx).1 (s_X9_isEmpty hx) (iX11_bills_30 (fun h30 => ?_) (fun h30 => absurd (e30) (by first | exact h30 | exact fun q => q h30)))))))
        refine iX11_bills_35 (iX11_bills_36 (iX11_bills_39 (iX11_bills_40 hvs (shelf_at hk).1 (iX11_bills_41 (hx).1 (s_X9_refusalOfBytes hx) (iX11_bills_44 (fun h44 => absurd h44 (e44)) (fun h44 => ?_))))))
        refine iX11_bills_47 (iX11_bills_49 ?_)
        first | exact ⟨rfl, rfl, rfl, rfl⟩ | (exfalso; (try simp only [f_in] at *); grind)
      · refine specF_of (L := [some (.ref 57), some (.int s), some (.int i), some (.int n), none, none, none, none]) (by decide) (Nat.le_of_ble_eq_true rfl) rfl ?_
        refine iX12_bills_0 (iX12_bills_1 (s_X12_isShelf _) (iX12_bills_4 (fun h4 => absurd h4 (n5)) (fun h4 => ?_)))
        refine iX12_bills_7 (iX12_bills_8 (iX12_bills_9 (iX12_bills_11 (s_X12_in _ _ _) (iX12_bills_14 (fun h14 => ?_) (fun h14 => absurd (m14) (by first | exact h14 | exact fun q => q h14))))))
        refine iX12_bills_19 (iX12_bills_20 (iX12_bills_23 (iX12_bills_24 hvs (iX12_bills_25 (iX12_bills_26 (fun h26 => absurd h26 (m26)) (fun h26 => ?_))))))
        refine iX12_bills_29 (iX12_bills_30 (iX12_bills_33 (iX12_bills_34 hvs (iX12_bills_35 (iX12_bills_37 (fun h37 => absurd h37 (m37)) (fun h37 => ?_))))))
        refine iX12_bills_40 (iX12_bills_42 ?_)
        first | exact ⟨rfl, rfl, rfl, rfl⟩ | (exfalso; (try simp only [f_in] at *); grind)
    have e44 : f_refB I (45 + 2 * s.toNatClampNeg) = 0 := by unfold f_refB; rw [q1, if_neg (by decide), if_pos ⟨rfl, hb0⟩]
    have m37 : I 87 s.toNatClampNeg = -2 := by rw [q2, hb0]; rfl
    obtain ⟨l, hl, el⟩ := nI_of2 (x := I (45 + 2 * s.toNatClampNeg) 4) (M := 60) (n := 60) (by decide) (by grind) q7
    obtain ⟨c, hc, ec⟩ := nI_of2 (x := I 1 2) (M := 10) (n := 10) (by decide) (by grind) a4
    obtain ⟨N, hN, eN⟩ := nI_of2 (x := n) (M := 10) (n := 10) (by decide) (by grind) c16
    have hB : ∀ x, f_byte I J (45 + 2 * s.toNatClampNeg) (46 + 2 * s.toNatClampNeg) x = bB J (46 + 2 * s.toNatClampNeg) (nI l) x := fun x => by rw [f_byte_B q1 hb0 q6, el]
    have lc := bills_c (J := J) (i := i) (N := N) hk rfl hvs hN N I c 0 (by omega) hc ec (fun _ => q7) hB
    have lm := bills_m (J := J) (i := i) (N := N) hk hkk hN hl q8 N (addC I (bl (bB J (46 + 2 * s.toNatClampNeg) (nI l)) i N c 0)) c 0 (by omega) hc (by rw [addC_row _ _ _ _ (Or.inl rfl), a1, ec]) (by rw [addC_row _ _ _ _ (Or.inr (by omega)), q5, el])
    subst eN
    refine pair_of (v := nI (0 + (bl (bB J (46 + 2 * s.toNatClampNeg) (nI l)) i N c 0).length)) (v' := nI (0 + (bl (bB J (46 + 2 * s.toNatClampNeg) (nI l)) i N c 0).length)) (I1 := addC I (bl (bB J (46 + 2 * s.toNatClampNeg) (nI l)) i N c 0)) (I2 := addM (addC I (bl (bB J (46 + 2 * s.toNatClampNeg) (nI l)) i N c 0)) (bl (bB J (46 + 2 * s.toNatClampNeg) (nI l)) i N c 0)) (J1 := J) (J2 := J) ?_ ?_ rfl ?_
    · refine specF_of (L := [some (.ref 0), some (.int s), some (.int i), some (.int (nI N)), none]) (by decide) (Nat.le_of_ble_eq_true rfl) rfl ?_
      refine iX11_bills_0 (iX11_bills_1 (iX11_bills_2 (s_X11_isShelf _) (iX11_bills_5 (fun h5 => absurd h5 (n5)) (fun h5 => ?_))))
      refine iX11_bills_8 (iX11_bills_9 (iX11_bills_10 (fun h10 => absurd h10 (c10)) (fun h10 => ?_)))
      refine iX11_bills_13 (iX11_bills_14 (iX11_bills_16 (fun h16 => ?_) (fun h16 => absurd (c16) (by first | exact h16 | exact fun q => q h16))))
      refine iX11_bills_21 (iX11_bills_22 (iX11_bills_25 (iX11_bills_26 hvs (shelf_at hk).1 (iX11_bills_27 (hx).1 (s_X9_isEmpty hx) (iX11_bills_30 (fun h30 => ?_) (fun h30 => absurd (e30) (by first | exact h30 | exact fun q => q h30)))))))
      refine iX11_bills_35 (iX11_bills_36 (iX11_bills_39 (iX11_bills_40 hvs (shelf_at hk).1 (iX11_bills_41 (hx).1 (s_X9_refusalOfBytes hx) (iX11_bills_44 (fun h44 => ?_) (fun h44 => absurd (e44) (by first | exact h44 | exact fun q => q h44)))))))
      refine iX11_bills_50 (iX11_bills_51 ?_)
      exact lc
    · refine specF_of (L := [some (.ref 57), some (.int s), some (.int i), some (.int (nI N)), none, none, none, none]) (by decide) (Nat.le_of_ble_eq_true rfl) rfl ?_
      have d87 : ∀ b, addC I (bl (bB J (46 + 2 * s.toNatClampNeg) (nI l)) i N c 0) 87 b = I 87 b := fun b => addC_row _ _ _ _ (Or.inr (by omega))
      have e26 : ¬ addC I (bl (bB J (46 + 2 * s.toNatClampNeg) (nI l)) i N c 0) 87 s.toNatClampNeg = -1 := by rw [d87]; exact m26
      have e37 : addC I (bl (bB J (46 + 2 * s.toNatClampNeg) (nI l)) i N c 0) 87 s.toNatClampNeg = -2 := by rw [d87]; exact m37
      refine iX12_bills_0 (iX12_bills_1 (s_X12_isShelf _) (iX12_bills_4 (fun h4 => absurd h4 (n5)) (fun h4 => ?_)))
      refine iX12_bills_7 (iX12_bills_8 (iX12_bills_9 (iX12_bills_11 (s_X12_in _ _ _) (iX12_bills_14 (fun h14 => ?_) (fun h14 => absurd (m14) (by first | exact h14 | exact fun q => q h14))))))
      refine iX12_bills_19 (iX12_bills_20 (iX12_bills_23 (iX12_bills_24 hvs (iX12_bills_25 (iX12_bills_26 (fun h26 => absurd h26 (e26)) (fun h26 => ?_))))))
      refine iX12_bills_29 (iX12_bills_30 (iX12_bills_33 (iX12_bills_34 hvs (iX12_bills_35 (iX12_bills_37 (fun h37 => ?_) (fun h37 => absurd (e37) (by first | exact h37 | exact fun q => q h37)))))))
      refine iX12_bills_43 (iX12_bills_44 (iX12_bills_47 (iX12_bills_48 hvs (iX12_bills_49 (iX12_bills_50 (fun h50 => ?_) (fun h50 => absurd (e26) (by first | exact h50 | exact fun q => q h50)))))))
      refine iX12_bills_55 (iX12_bills_56 ?_)
      exact lm _ _ _
    exact inv_addAll _ I c h ec (bl_len N c 0 hc) (bl_ok N c 0)
