/-! ===== keep, row, put, element, taken, shift ===== -/
theorem sup_sh {k b : Nat} (hk : k < 6) : sup (45 + 2 * k) b = false := by
  have : k = 0 ∨ k = 1 ∨ k = 2 ∨ k = 3 ∨ k = 4 ∨ k = 5 := by omega
  rcases this with rfl | rfl | rfl | rfl | rfl | rfl <;> rfl
theorem fr0 {I : xI} : ∀ a b, sup a b = true → I a b = I a b := fun _ _ _ => rfl
theorem frx {I I' : xI} {c e : Nat} {v : Int32} (hs : sup c e = false) (h : ∀ a b, sup a b = true → I' a b = I a b) : ∀ a b, sup a b = true → xu I' c e v a b = I a b := by
  intro a b hab
  have := h a b hab
  simp only [xu]
  grind
section
variable {I : xI} {J : xJ}
def f_underC : Nat → Int32 → Int32 → Int32
  | 0, _, _ => 0
  | n + 1, k, o => if f_in k 0 7 = 0 then 0 else if k = o then 1 else f_underC n ((xTB 2).getD k.toNatClampNeg 0) o
theorem s_X3_isUnder (k o : Int32) : SpecF 1 M_X3_isUnder [.int k, .int o] xG1 I J (some (.int (f_underC 8 k o))) I J := by
  refine specF_of (L := [some (.int k), some (.int o), none, none]) (by decide) (Nat.le_of_ble_eq_true rfl) rfl ?_
  have key : ∀ n i : Nat, ∀ c : Int32, i + n = 8 → WP 1 (1000000, 0, 0) none M_X3_isUnder (fun r2 g2 I2 J2 => r2 = some (.int (f_underC n c o)) ∧ g2 = xG1 ∧ I2 = I ∧ J2 = J) 4 [some (.int k), some (.int o), some (.int c), some (.int (nI i))] [] xG1 I J := by
    intro n
    induction n with
    | zero =>
      intro i c hi
      obtain rfl : i = 8 := by omega
      refine iX3_isUnder_4 (iX3_isUnder_5 (iX3_isUnder_7 (fun h7 => ?_) (fun h7 => absurd (Int32.le_refl _) (by first | exact h7 | exact fun q => q h7))))
      refine iX3_isUnder_36 (iX3_isUnder_37 ?_)
      exact ⟨rfl, rfl, rfl, rfl⟩
    | succ n ih =>
      intro i c hi
      refine iX3_isUnder_4 (iX3_isUnder_5 (iX3_isUnder_7 (fun h7 => absurd h7 (nI_ge (b := 8) (a := i) (by omega) (by omega))) (fun h7 => ?_)))
      refine iX3_isUnder_10 (iX3_isUnder_11 (s_X3_isKind _) (iX3_isUnder_14 (fun h14 => ?_) (fun h14 => ?_)))
      · refine iX3_isUnder_36 (iX3_isUnder_37 ?_)
        exact ⟨congrArg (fun z => some (Value.int z)) (by simp only [f_underC]; grind), rfl, rfl, rfl⟩
      · refine iX3_isUnder_17 (iX3_isUnder_18 (iX3_isUnder_19 (fun h19 => ?_) (fun h19 => ?_)))
        · refine iX3_isUnder_24 (iX3_isUnder_27 ?_)
          have hcc := f_in_p ‹_›
          refine iX3_isUnder_28 (vin 8 (by decide) (by grind) (by grind)) (iX3_isUnder_29 (iX3_isUnder_30 (iX3_isUnder_33 ?_)))
          have e1 : nI i + (1) = nI (i + 1) := nI_1 i
          rw [e1]
          have := ih (i + 1) ((xTB 2).getD c.toNatClampNeg 0) (by omega)
          rw [show f_underC (n + 1) c o = f_underC n ((xTB 2).getD c.toNatClampNeg 0) o by simp [f_underC, *]]
          exact this
        · refine iX3_isUnder_22 (iX3_isUnder_23 ?_)
          exact ⟨congrArg (fun z => some (Value.int z)) (by simp only [f_underC]; grind), rfl, rfl, rfl⟩
  refine iX3_isUnder_0 (iX3_isUnder_1 (iX3_isUnder_2 (iX3_isUnder_3 ?_)))
  exact key 8 0 k (by omega)
def f_underM (k o : Int32) : Int32 := if o = 0 ∨ k = o ∨ o = 1 ∧ k = 4 ∨ o = 2 ∧ (k = 3 ∨ k = 5) ∨ o = 3 ∧ k = 5 ∨ o = 6 ∧ k = 7 then 1 else 0
theorem s_X12_isUnder (k o : Int32) : SpecF 0 M_X12_isUnder [.int k, .int o] xG1 I J (some (.int (f_underM k o))) I J := by
  refine specF_of (L := [some (.int k), some (.int o)]) (by decide) (Nat.le_of_ble_eq_true rfl) rfl ?_
  refine iX12_isUnder_0 (iX12_isUnder_1 (fun h1 => ?_) (fun h1 => ?_))
  · refine iX12_isUnder_56 (iX12_isUnder_57 (iX12_isUnder_61 ?_))
    exact ⟨congrArg (fun z => some (Value.int z)) (by unfold f_underM; grind), rfl, rfl, rfl⟩
  · refine iX12_isUnder_4 (iX12_isUnder_5 (iX12_isUnder_6 (fun h6 => ?_) (fun h6 => ?_)))
    · refine iX12_isUnder_56 (iX12_isUnder_57 (iX12_isUnder_61 ?_))
      exact ⟨congrArg (fun z => some (Value.int z)) (by unfold f_underM; grind), rfl, rfl, rfl⟩
    · refine iX12_isUnder_9 (iX12_isUnder_10 (iX12_isUnder_11 (fun h11 => ?_) (fun h11 => ?_)))
      · refine iX12_isUnder_19 (iX12_isUnder_20 (iX12_isUnder_21 (fun h21 => ?_) (fun h21 => ?_)))
        · refine iX12_isUnder_34 (iX12_isUnder_35 (iX12_isUnder_36 (fun h36 => ?_) (fun h36 => ?_)))
          · refine iX12_isUnder_44 (iX12_isUnder_45 (iX12_isUnder_47 (fun h47 => ?_) (fun h47 => ?_)))
            · refine iX12_isUnder_60 (iX12_isUnder_61 ?_)
              exact ⟨congrArg (fun z => some (Value.int z)) (by unfold f_underM; grind), rfl, rfl, rfl⟩
            · refine iX12_isUnder_50 (iX12_isUnder_51 (iX12_isUnder_53 (fun h53 => ?_) (fun h53 => ?_)))
              · refine iX12_isUnder_60 (iX12_isUnder_61 ?_)
                exact ⟨congrArg (fun z => some (Value.int z)) (by unfold f_underM; grind), rfl, rfl, rfl⟩
              · refine iX12_isUnder_56 (iX12_isUnder_57 (iX12_isUnder_61 ?_))
                exact ⟨congrArg (fun z => some (Value.int z)) (by unfold f_underM; grind), rfl, rfl, rfl⟩
          · refine iX12_isUnder_39 (iX12_isUnder_40 (iX12_isUnder_41 (fun h41 => ?_) (fun h41 => ?_)))
            · refine iX12_isUnder_56 (iX12_isUnder_57 (iX12_isUnder_61 ?_))
              exact ⟨congrArg (fun z => some (Value.int z)) (by unfold f_underM; grind), rfl, rfl, rfl⟩
            · refine iX12_isUnder_44 (iX12_isUnder_45 (iX12_isUnder_47 (fun h47 => ?_) (fun h47 => ?_)))
              · refine iX12_isUnder_60 (iX12_isUnder_61 ?_)
                exact ⟨congrArg (fun z => some (Value.int z)) (by unfold f_underM; grind), rfl, rfl, rfl⟩
              · refine iX12_isUnder_50 (iX12_isUnder_51 (iX12_isUnder_53 (fun h53 => ?_) (fun h53 => ?_)))
                · refine iX12_isUnder_60 (iX12_isUnder_61 ?_)
                  exact ⟨congrArg (fun z => some (Value.int z)) (by unfold f_underM; grind), rfl, rfl, rfl⟩
                · refine iX12_isUnder_56 (iX12_isUnder_57 (iX12_isUnder_61 ?_))
                  exact ⟨congrArg (fun z => some (Value.int z)) (by unfold f_underM; grind), rfl, rfl, rfl⟩
        · refine iX12_isUnder_24 (iX12_isUnder_25 (iX12_isUnder_26 (fun h26 => ?_) (fun h26 => ?_)))
          · refine iX12_isUnder_56 (iX12_isUnder_57 (iX12_isUnder_61 ?_))
            exact ⟨congrArg (fun z => some (Value.int z)) (by unfold f_underM; grind), rfl, rfl, rfl⟩
          · refine iX12_isUnder_29 (iX12_isUnder_30 (iX12_isUnder_31 (fun h31 => ?_) (fun h31 => ?_)))
            · refine iX12_isUnder_56 (iX12_isUnder_57 (iX12_isUnder_61 ?_))
              exact ⟨congrArg (fun z => some (Value.int z)) (by unfold f_underM; grind), rfl, rfl, rfl⟩
            · refine iX12_isUnder_34 (iX12_isUnder_35 (iX12_isUnder_36 (fun h36 => ?_) (fun h36 => ?_)))
              · refine iX12_isUnder_44 (iX12_isUnder_45 (iX12_isUnder_47 (fun h47 => ?_) (fun h47 => ?_)))
                · refine iX12_isUnder_60 (iX12_isUnder_61 ?_)
                  exact ⟨congrArg (fun z => some (Value.int z)) (by unfold f_underM; grind), rfl, rfl, rfl⟩
                · refine iX12_isUnder_50 (iX12_isUnder_51 (iX12_isUnder_53 (fun h53 => ?_) (fun h53 => ?_)))
                  · refine iX12_isUnder_60 (iX12_isUnder_61 ?_)
                    exact ⟨congrArg (fun z => some (Value.int z)) (by unfold f_underM; grind), rfl, rfl, rfl⟩
                  · refine iX12_isUnder_56 (iX12_isUnder_57 (iX12_isUnder_61 ?_))
                    exact ⟨congrArg (fun z => some (Value.int z)) (by unfold f_underM; grind), rfl, rfl, rfl⟩
              · refine iX12_isUnder_39 (iX12_isUnder_40 (iX12_isUnder_41 (fun h41 => ?_) (fun h41 => ?_)))
                · refine iX12_isUnder_56 (iX12_isUnder_57 (iX12_isUnder_61 ?_))
                  exact ⟨congrArg (fun z => some (Value.int z)) (by unfold f_underM; grind), rfl, rfl, rfl⟩
                · refine iX12_isUnder_44 (iX12_isUnder_45 (iX12_isUnder_47 (fun h47 => ?_) (fun h47 => ?_)))
                  · refine iX12_isUnder_60 (iX12_isUnder_61 ?_)
                    exact ⟨congrArg (fun z => some (Value.int z)) (by unfold f_underM; grind), rfl, rfl, rfl⟩
                  · refine iX12_isUnder_50 (iX12_isUnder_51 (iX12_isUnder_53 (fun h53 => ?_) (fun h53 => ?_)))
                    · refine iX12_isUnder_60 (iX12_isUnder_61 ?_)
                      exact ⟨congrArg (fun z => some (Value.int z)) (by unfold f_underM; grind), rfl, rfl, rfl⟩
                    · refine iX12_isUnder_56 (iX12_isUnder_57 (iX12_isUnder_61 ?_))
                      exact ⟨congrArg (fun z => some (Value.int z)) (by unfold f_underM; grind), rfl, rfl, rfl⟩
      · refine iX12_isUnder_14 (iX12_isUnder_15 (iX12_isUnder_16 (fun h16 => ?_) (fun h16 => ?_)))
        · refine iX12_isUnder_56 (iX12_isUnder_57 (iX12_isUnder_61 ?_))
          exact ⟨congrArg (fun z => some (Value.int z)) (by unfold f_underM; grind), rfl, rfl, rfl⟩
        · refine iX12_isUnder_19 (iX12_isUnder_20 (iX12_isUnder_21 (fun h21 => ?_) (fun h21 => ?_)))
          · refine iX12_isUnder_34 (iX12_isUnder_35 (iX12_isUnder_36 (fun h36 => ?_) (fun h36 => ?_)))
            · refine iX12_isUnder_44 (iX12_isUnder_45 (iX12_isUnder_47 (fun h47 => ?_) (fun h47 => ?_)))
              · refine iX12_isUnder_60 (iX12_isUnder_61 ?_)
                exact ⟨congrArg (fun z => some (Value.int z)) (by unfold f_underM; grind), rfl, rfl, rfl⟩
              · refine iX12_isUnder_50 (iX12_isUnder_51 (iX12_isUnder_53 (fun h53 => ?_) (fun h53 => ?_)))
                · refine iX12_isUnder_60 (iX12_isUnder_61 ?_)
                  exact ⟨congrArg (fun z => some (Value.int z)) (by unfold f_underM; grind), rfl, rfl, rfl⟩
                · refine iX12_isUnder_56 (iX12_isUnder_57 (iX12_isUnder_61 ?_))
                  exact ⟨congrArg (fun z => some (Value.int z)) (by unfold f_underM; grind), rfl, rfl, rfl⟩
            · refine iX12_isUnder_39 (iX12_isUnder_40 (iX12_isUnder_41 (fun h41 => ?_) (fun h41 => ?_)))
              · refine iX12_isUnder_56 (iX12_isUnder_57 (iX12_isUnder_61 ?_))
                exact ⟨congrArg (fun z => some (Value.int z)) (by unfold f_underM; grind), rfl, rfl, rfl⟩
              · refine iX12_isUnder_44 (iX12_isUnder_45 (iX12_isUnder_47 (fun h47 => ?_) (fun h47 => ?_)))
                · refine iX12_isUnder_60 (iX12_isUnder_61 ?_)
                  exact ⟨congrArg (fun z => some (Value.int z)) (by unfold f_underM; grind), rfl, rfl, rfl⟩
                · refine iX12_isUnder_50 (iX12_isUnder_51 (iX12_isUnder_53 (fun h53 => ?_) (fun h53 => ?_)))
                  · refine iX12_isUnder_60 (iX12_isUnder_61 ?_)
                    exact ⟨congrArg (fun z => some (Value.int z)) (by unfold f_underM; grind), rfl, rfl, rfl⟩
                  · refine iX12_isUnder_56 (iX12_isUnder_57 (iX12_isUnder_61 ?_))
                    exact ⟨congrArg (fun z => some (Value.int z)) (by unfold f_underM; grind), rfl, rfl, rfl⟩
          · refine iX12_isUnder_24 (iX12_isUnder_25 (iX12_isUnder_26 (fun h26 => ?_) (fun h26 => ?_)))
            · refine iX12_isUnder_56 (iX12_isUnder_57 (iX12_isUnder_61 ?_))
              exact ⟨congrArg (fun z => some (Value.int z)) (by unfold f_underM; grind), rfl, rfl, rfl⟩
            · refine iX12_isUnder_29 (iX12_isUnder_30 (iX12_isUnder_31 (fun h31 => ?_) (fun h31 => ?_)))
              · refine iX12_isUnder_56 (iX12_isUnder_57 (iX12_isUnder_61 ?_))
                exact ⟨congrArg (fun z => some (Value.int z)) (by unfold f_underM; grind), rfl, rfl, rfl⟩
              · refine iX12_isUnder_34 (iX12_isUnder_35 (iX12_isUnder_36 (fun h36 => ?_) (fun h36 => ?_)))
                · refine iX12_isUnder_44 (iX12_isUnder_45 (iX12_isUnder_47 (fun h47 => ?_) (fun h47 => ?_)))
                  · refine iX12_isUnder_60 (iX12_isUnder_61 ?_)
                    exact ⟨congrArg (fun z => some (Value.int z)) (by unfold f_underM; grind), rfl, rfl, rfl⟩
                  · refine iX12_isUnder_50 (iX12_isUnder_51 (iX12_isUnder_53 (fun h53 => ?_) (fun h53 => ?_)))
                    · refine iX12_isUnder_60 (iX12_isUnder_61 ?_)
                      exact ⟨congrArg (fun z => some (Value.int z)) (by unfold f_underM; grind), rfl, rfl, rfl⟩
                    · refine iX12_isUnder_56 (iX12_isUnder_57 (iX12_isUnder_61 ?_))
                      exact ⟨congrArg (fun z => some (Value.int z)) (by unfold f_underM; grind), rfl, rfl, rfl⟩
                · refine iX12_isUnder_39 (iX12_isUnder_40 (iX12_isUnder_41 (fun h41 => ?_) (fun h41 => ?_)))
                  · refine iX12_isUnder_56 (iX12_isUnder_57 (iX12_isUnder_61 ?_))
                    exact ⟨congrArg (fun z => some (Value.int z)) (by unfold f_underM; grind), rfl, rfl, rfl⟩
                  · refine iX12_isUnder_44 (iX12_isUnder_45 (iX12_isUnder_47 (fun h47 => ?_) (fun h47 => ?_)))
                    · refine iX12_isUnder_60 (iX12_isUnder_61 ?_)
                      exact ⟨congrArg (fun z => some (Value.int z)) (by unfold f_underM; grind), rfl, rfl, rfl⟩
                    · refine iX12_isUnder_50 (iX12_isUnder_51 (iX12_isUnder_53 (fun h53 => ?_) (fun h53 => ?_)))
                      · refine iX12_isUnder_60 (iX12_isUnder_61 ?_)
                        exact ⟨congrArg (fun z => some (Value.int z)) (by unfold f_underM; grind), rfl, rfl, rfl⟩
                      · refine iX12_isUnder_56 (iX12_isUnder_57 (iX12_isUnder_61 ?_))
                        exact ⟨congrArg (fun z => some (Value.int z)) (by unfold f_underM; grind), rfl, rfl, rfl⟩
theorem under_eq {k o : Int32} (h0 : 0 ≤ k) (h1 : k ≤ 7) (h2 : 0 ≤ o) (h3 : o ≤ 7) : f_underC 8 k o = f_underM k o := by
  obtain ⟨k', hk, rfl⟩ := nI_of2 (M := 7) (n := 7) (by decide) (by grind) h1
  obtain ⟨o', ho, rfl⟩ := nI_of2 (M := 7) (n := 7) (by decide) (by grind) h3
  have : ∀ k : Nat, k < 8 → ∀ o : Nat, o < 8 → f_underC 8 (nI k) (nI o) = f_underM (nI k) (nI o) := by decide +kernel
  exact this k' (by omega) o' (by omega)
theorem under_neg {o : Int32} : f_underC 8 (-1) o = 0 := rfl
end
theorem pp_keep : PP_keep Inv := by
  intro I J h s b
  obtain ⟨hh, hb, hse, hin, hch, hta, hle, him, hcl, hsh, hlw⟩ := id h
  obtain ⟨c1, c2, c3, c4, c5, c6, c7, c8⟩ := id hcl
  by_cases hbad : f_in s 0 5 = 0 ∨ ¬ b = -1 ∧ f_has3 I b = 0
  · refine pair_of (v := -1) (v' := -1) (I1 := I) (I2 := I) (J1 := J) (J2 := J) ?_ ?_ rfl h
    · refine specF_of (L := [some (.ref 0), some (.int s), some (.int b)]) (by decide) (Nat.le_of_ble_eq_true rfl) rfl ?_
      refine iX11_keep_0 (iX11_keep_1 (iX11_keep_2 (s_X11_isShelf _) (iX11_keep_5 (fun h5 => ?_) (fun h5 => ?_))))
      · refine iX11_keep_24 (iX11_keep_25 ?_)
        first | exact ⟨rfl, rfl, rfl, rfl⟩ | (exfalso; (try simp only [f_in] at *); grind)
      · refine iX11_keep_8 (iX11_keep_9 (iX11_keep_10 (fun h10 => ?_) (fun h10 => ?_)))
        · exfalso
          simp only [f_in] at *
          grind
        · refine iX11_keep_13 (iX11_keep_14 (iX11_keep_17 (iX11_keep_18 (s_X3_has _) (iX11_keep_21 (fun h21 => ?_) (fun h21 => ?_)))))
          · exfalso
            simp only [f_in] at *
            grind
          · refine iX11_keep_24 (iX11_keep_25 ?_)
            first | exact ⟨rfl, rfl, rfl, rfl⟩ | (exfalso; (try simp only [f_in] at *); grind)
    · refine specF_of (L := [some (.ref 57), some (.int s), some (.int b)]) (by decide) (Nat.le_of_ble_eq_true rfl) rfl ?_
      refine iX12_keep_0 (iX12_keep_1 (s_X12_isShelf _) (iX12_keep_4 (fun h4 => ?_) (fun h4 => ?_)))
      · refine iX12_keep_20 (iX12_keep_21 ?_)
        first | exact ⟨rfl, rfl, rfl, rfl⟩ | (exfalso; (try simp only [f_in] at *); grind)
      · refine iX12_keep_7 (iX12_keep_8 (iX12_keep_9 (fun h9 => ?_) (fun h9 => ?_)))
        · exfalso
          simp only [f_in, f_has3] at *
          grind
        · refine iX12_keep_12 (iX12_keep_13 (iX12_keep_14 (s_X12_isBody _) (iX12_keep_17 (fun h17 => ?_) (fun h17 => ?_))))
          · exfalso
            simp only [f_in, f_has3] at *
            grind
          · refine iX12_keep_20 (iX12_keep_21 ?_)
            first | exact ⟨rfl, rfl, rfl, rfl⟩ | (exfalso; (try simp only [f_in] at *); grind)
  have hs := f_in_p (v := s) (a := 0) (b := 5) (by grind)
  have hk : s.toNatClampNeg < 6 := clamp_lt' (N := 6) (by decide) hs.1 (by grind)
  have hvs : vp_in s 6 := vin 6 (by decide) (by grind) (by grind)
  have hx := xSh_at hk
  by_cases hb1 : b = -1
  · subst hb1
    refine pair_of (v := 1) (v' := 1) (I1 := xu I (45 + 2 * s.toNatClampNeg) 1 0) (I2 := xu (xu I (45 + 2 * s.toNatClampNeg) 1 0) 87 s.toNatClampNeg (-1)) (J1 := J) (J2 := J) ?_ ?_ rfl ?_
    · refine specF_of (L := [some (.ref 0), some (.int s), some (.int (-1))]) (by decide) (Nat.le_of_ble_eq_true rfl) rfl ?_
      refine iX11_keep_0 (iX11_keep_1 (iX11_keep_2 (s_X11_isShelf _) (iX11_keep_5 (fun h5 => ?_) (fun h5 => ?_))))
      · refine iX11_keep_24 (iX11_keep_25 ?_)
        first | exact ⟨rfl, rfl, rfl, rfl⟩ | (exfalso; (try simp only [f_in] at *); grind)
      · refine iX11_keep_8 (iX11_keep_9 (iX11_keep_10 (fun h10 => ?_) (fun h10 => ?_)))
        · refine iX11_keep_26 (iX11_keep_27 (iX11_keep_28 (fun h28 => ?_) (fun h28 => ?_)))
          · refine iX11_keep_43 (iX11_keep_44 (iX11_keep_47 (iX11_keep_48 hvs (shelf_at hk).1 (iX11_keep_49 (iX11_keep_50 (hx).1 (s_X9_holdBody _ hx) (iX11_keep_53 (iX11_keep_54 ?_)))))))
            first | exact ⟨rfl, rfl, rfl, rfl⟩ | (exfalso; (try simp only [f_in] at *); grind)
          · refine iX11_keep_31 (iX11_keep_32 (iX11_keep_35 (iX11_keep_36 hvs (shelf_at hk).1 (iX11_keep_37 (hx).1 (s_X9_clear hx) (iX11_keep_40 (iX11_keep_53 (iX11_keep_54 ?_)))))))
            first | exact ⟨rfl, rfl, rfl, rfl⟩ | (exfalso; (try simp only [f_in] at *); grind)
        · refine iX11_keep_13 (iX11_keep_14 (iX11_keep_17 (iX11_keep_18 (s_X3_has _) (iX11_keep_21 (fun h21 => ?_) (fun h21 => ?_)))))
          · refine iX11_keep_26 (iX11_keep_27 (iX11_keep_28 (fun h28 => ?_) (fun h28 => ?_)))
            · refine iX11_keep_43 (iX11_keep_44 (iX11_keep_47 (iX11_keep_48 hvs (shelf_at hk).1 (iX11_keep_49 (iX11_keep_50 (hx).1 (s_X9_holdBody _ hx) (iX11_keep_53 (iX11_keep_54 ?_)))))))
              first | exact ⟨rfl, rfl, rfl, rfl⟩ | (exfalso; (try simp only [f_in] at *); grind)
            · refine iX11_keep_31 (iX11_keep_32 (iX11_keep_35 (iX11_keep_36 hvs (shelf_at hk).1 (iX11_keep_37 (hx).1 (s_X9_clear hx) (iX11_keep_40 (iX11_keep_53 (iX11_keep_54 ?_)))))))
              first | exact ⟨rfl, rfl, rfl, rfl⟩ | (exfalso; (try simp only [f_in] at *); grind)
          · refine iX11_keep_24 (iX11_keep_25 ?_)
            first | exact ⟨rfl, rfl, rfl, rfl⟩ | (exfalso; (try simp only [f_in] at *); grind)
    · refine specF_of (L := [some (.ref 57), some (.int s), some (.int (-1))]) (by decide) (Nat.le_of_ble_eq_true rfl) rfl ?_
      refine iX12_keep_0 (iX12_keep_1 (s_X12_isShelf _) (iX12_keep_4 (fun h4 => ?_) (fun h4 => ?_)))
      · refine iX12_keep_20 (iX12_keep_21 ?_)
        first | exact ⟨rfl, rfl, rfl, rfl⟩ | (exfalso; (try simp only [f_in] at *); grind)
      · refine iX12_keep_7 (iX12_keep_8 (iX12_keep_9 (fun h9 => ?_) (fun h9 => ?_)))
        · refine iX12_keep_22 (iX12_keep_23 (iX12_keep_26 (iX12_keep_27 (iX12_keep_28 hvs (iX12_keep_29 (iX12_keep_30 ?_))))))
          first | exact ⟨rfl, rfl, rfl, rfl⟩ | (exfalso; (try simp only [f_in] at *); grind)
        · refine iX12_keep_12 (iX12_keep_13 (iX12_keep_14 (s_X12_isBody _) (iX12_keep_17 (fun h17 => ?_) (fun h17 => ?_))))
          · refine iX12_keep_22 (iX12_keep_23 (iX12_keep_26 (iX12_keep_27 (iX12_keep_28 hvs (iX12_keep_29 (iX12_keep_30 ?_))))))
            first | exact ⟨rfl, rfl, rfl, rfl⟩ | (exfalso; (try simp only [f_in] at *); grind)
          · refine iX12_keep_20 (iX12_keep_21 ?_)
            first | exact ⟨rfl, rfl, rfl, rfl⟩ | (exfalso; (try simp only [f_in] at *); grind)
    generalize s.toNatClampNeg = k at hk hx
    refine inv_frame h (frx rfl (frx (sup_sh hk) fr0)) (ivSh_upd hsh k (by simp (disch := omega) [xu_eq, xu_rowf]) (fun t ht hn => ?_) (Or.inl ?_))
    · exact ⟨by simp (disch := omega) only [xu_rowf], rfl, by simp only [xu]; grind, by simp only [xu]; grind, fun _ _ => rfl⟩
    · simp only [xu]; grind
  · have hb3 : 0 ≤ b ∧ b < I 41 2 := by unfold f_has3 at hbad; grind
    refine pair_of (v := 1) (v' := 1) (I1 := xu (xu I (45 + 2 * s.toNatClampNeg) 1 1) (45 + 2 * s.toNatClampNeg) 2 b) (I2 := xu (xu (xu I (45 + 2 * s.toNatClampNeg) 1 1) (45 + 2 * s.toNatClampNeg) 2 b) 87 s.toNatClampNeg b) (J1 := J) (J2 := J) ?_ ?_ rfl ?_
    · refine specF_of (L := [some (.ref 0), some (.int s), some (.int b)]) (by decide) (Nat.le_of_ble_eq_true rfl) rfl ?_
      refine iX11_keep_0 (iX11_keep_1 (iX11_keep_2 (s_X11_isShelf _) (iX11_keep_5 (fun h5 => ?_) (fun h5 => ?_))))
      · refine iX11_keep_24 (iX11_keep_25 ?_)
        first | exact ⟨rfl, rfl, rfl, rfl⟩ | (exfalso; (try simp only [f_in] at *); grind)
      · refine iX11_keep_8 (iX11_keep_9 (iX11_keep_10 (fun h10 => ?_) (fun h10 => ?_)))
        · refine iX11_keep_26 (iX11_keep_27 (iX11_keep_28 (fun h28 => ?_) (fun h28 => ?_)))
          · refine iX11_keep_43 (iX11_keep_44 (iX11_keep_47 (iX11_keep_48 hvs (shelf_at hk).1 (iX11_keep_49 (iX11_keep_50 (hx).1 (s_X9_holdBody _ hx) (iX11_keep_53 (iX11_keep_54 ?_)))))))
            first | exact ⟨rfl, rfl, rfl, rfl⟩ | (exfalso; (try simp only [f_in] at *); grind)
          · refine iX11_keep_31 (iX11_keep_32 (iX11_keep_35 (iX11_keep_36 hvs (shelf_at hk).1 (iX11_keep_37 (hx).1 (s_X9_clear hx) (iX11_keep_40 (iX11_keep_53 (iX11_keep_54 ?_)))))))
            first | exact ⟨rfl, rfl, rfl, rfl⟩ | (exfalso; (try simp only [f_in] at *); grind)
        · refine iX11_keep_13 (iX11_keep_14 (iX11_keep_17 (iX11_keep_18 (s_X3_has _) (iX11_keep_21 (fun h21 => ?_) (fun h21 => ?_)))))
          · refine iX11_keep_26 (iX11_keep_27 (iX11_keep_28 (fun h28 => ?_) (fun h28 => ?_)))
            · refine iX11_keep_43 (iX11_keep_44 (iX11_keep_47 (iX11_keep_48 hvs (shelf_at hk).1 (iX11_keep_49 (iX11_keep_50 (hx).1 (s_X9_holdBody _ hx) (iX11_keep_53 (iX11_keep_54 ?_)))))))
              first | exact ⟨rfl, rfl, rfl, rfl⟩ | (exfalso; (try simp only [f_in] at *); grind)
            · refine iX11_keep_31 (iX11_keep_32 (iX11_keep_35 (iX11_keep_36 hvs (shelf_at hk).1 (iX11_keep_37 (hx).1 (s_X9_clear hx) (iX11_keep_40 (iX11_keep_53 (iX11_keep_54 ?_)))))))
              first | exact ⟨rfl, rfl, rfl, rfl⟩ | (exfalso; (try simp only [f_in] at *); grind)
          · refine iX11_keep_24 (iX11_keep_25 ?_)
            first | exact ⟨rfl, rfl, rfl, rfl⟩ | (exfalso; (try simp only [f_in] at *); grind)
    · refine specF_of (L := [some (.ref 57), some (.int s), some (.int b)]) (by decide) (Nat.le_of_ble_eq_true rfl) rfl ?_
      have e57 : (xu (xu I (45 + 2 * s.toNatClampNeg) 1 1) (45 + 2 * s.toNatClampNeg) 2 b) 57 45 = I 57 45 := by simp only [xu]; grind
      refine iX12_keep_0 (iX12_keep_1 (s_X12_isShelf _) (iX12_keep_4 (fun h4 => ?_) (fun h4 => ?_)))
      · refine iX12_keep_20 (iX12_keep_21 ?_)
        first | exact ⟨rfl, rfl, rfl, rfl⟩ | (exfalso; (try simp only [f_in] at *); grind)
      · refine iX12_keep_7 (iX12_keep_8 (iX12_keep_9 (fun h9 => ?_) (fun h9 => ?_)))
        · refine iX12_keep_22 (iX12_keep_23 (iX12_keep_26 (iX12_keep_27 (iX12_keep_28 hvs (iX12_keep_29 (iX12_keep_30 ?_))))))
          first | exact ⟨rfl, rfl, rfl, rfl⟩ | (exfalso; (try simp only [f_in] at *); grind)
        · refine iX12_keep_12 (iX12_keep_13 (iX12_keep_14 (s_X12_isBody _) (iX12_keep_17 (fun h17 => ?_) (fun h17 => ?_))))
          · refine iX12_keep_22 (iX12_keep_23 (iX12_keep_26 (iX12_keep_27 (iX12_keep_28 hvs (iX12_keep_29 (iX12_keep_30 ?_))))))
            first | exact ⟨rfl, rfl, rfl, rfl⟩ | (exfalso; (try simp only [f_in] at *); grind)
          · refine iX12_keep_20 (iX12_keep_21 ?_)
            first | exact ⟨rfl, rfl, rfl, rfl⟩ | (exfalso; (try simp only [f_in] at *); grind)
    generalize s.toNatClampNeg = k at hk hx
    refine inv_frame h (frx rfl (frx (sup_sh hk) (frx (sup_sh hk) fr0))) (ivSh_upd hsh k (by simp only [xu]; grind) (fun t ht hn => ?_) (Or.inr (Or.inl ?_)))
    · exact ⟨by simp (disch := omega) only [xu_rowf], rfl, by simp only [xu]; grind, by simp only [xu]; grind, fun _ _ => rfl⟩
    · simp only [xu]; grind
section
variable {I : xI} {J : xJ}
def f_why (I : xI) (s i : Int32) : Int32 := if f_in s 0 5 = 0 then -1 else if I (45 + 2 * s.toNatClampNeg) 1 = 0 then -11 else if ¬ I (45 + 2 * s.toNatClampNeg) 1 = 2 then -12 else if f_hasP I (45 + 2 * s.toNatClampNeg) i 1 = 0 then -13 else 0
theorem s_X11_refusalOfPlace (s i : Int32) : SpecF 2 M_X11_refusalOfPlace [.ref 0, .int s, .int i] xG1 I J (some (.int (f_why I s i))) I J := by
  refine specF_of (L := [some (.ref 0), some (.int s), some (.int i)]) (by decide) (Nat.le_of_ble_eq_true rfl) rfl ?_
  refine iX11_refusalOfPlace_0 (iX11_refusalOfPlace_1 (iX11_refusalOfPlace_2 (s_X11_isShelf _) (iX11_refusalOfPlace_5 (fun h5 => ?_) (fun h5 => ?_))))
  · have hs := f_in_p (v := s) (a := 0) (b := 5) ‹_›
    have hk : s.toNatClampNeg < 6 := clamp_lt' (N := 6) (by decide) hs.1 (by grind)
    have hvs : vp_in s 6 := vin 6 (by decide) (by grind) (by grind)
    have hx := xSh_at hk
    refine iX11_refusalOfPlace_10 (iX11_refusalOfPlace_11 (iX11_refusalOfPlace_14 (iX11_refusalOfPlace_15 hvs (shelf_at hk).1 (iX11_refusalOfPlace_16 (hx).1 (s_X9_isEmpty hx) (iX11_refusalOfPlace_19 (fun h19 => ?_) (fun h19 => ?_))))))
    · refine iX11_refusalOfPlace_25 (iX11_refusalOfPlace_26 (iX11_refusalOfPlace_29 (iX11_refusalOfPlace_30 hvs (shelf_at hk).1 (iX11_refusalOfPlace_31 (hx).1 (s_X9_isRow hx) (iX11_refusalOfPlace_34 (fun h34 => ?_) (fun h34 => ?_))))))
      · refine iX11_refusalOfPlace_40 (iX11_refusalOfPlace_41 (iX11_refusalOfPlace_44 (iX11_refusalOfPlace_45 hvs (shelf_at hk).1 (iX11_refusalOfPlace_46 (iX11_refusalOfPlace_47 (iX11_refusalOfPlace_48 (hx).1 (s_X9_hasPlaces _ _ hx) (iX11_refusalOfPlace_51 (fun h51 => ?_) (fun h51 => ?_))))))))
        · refine iX11_refusalOfPlace_58 (iX11_refusalOfPlace_60 ?_)
          exact ⟨congrArg (fun z => some (Value.int z)) (by unfold f_why; grind), rfl, rfl, rfl⟩
        · refine iX11_refusalOfPlace_54 (iX11_refusalOfPlace_55 (iX11_refusalOfPlace_60 ?_))
          exact ⟨congrArg (fun z => some (Value.int z)) (by unfold f_why; grind), rfl, rfl, rfl⟩
      · refine iX11_refusalOfPlace_37 (iX11_refusalOfPlace_39 ?_)
        exact ⟨congrArg (fun z => some (Value.int z)) (by unfold f_why; grind), rfl, rfl, rfl⟩
    · refine iX11_refusalOfPlace_22 (iX11_refusalOfPlace_24 ?_)
      exact ⟨congrArg (fun z => some (Value.int z)) (by unfold f_why; grind), rfl, rfl, rfl⟩
  · refine iX11_refusalOfPlace_8 (iX11_refusalOfPlace_9 ?_)
    exact ⟨congrArg (fun z => some (Value.int z)) (by unfold f_why; grind), rfl, rfl, rfl⟩
def f_whyM (I : xI) (s i : Int32) : Int32 := if f_in s 0 5 = 0 then -1 else if I 87 s.toNatClampNeg = -1 then -11 else if 0 ≤ I 87 s.toNatClampNeg then -12 else if f_in i 0 (I 88 s.toNatClampNeg - 1) = 0 then -13 else 0
theorem s_X12_whyNoPlace (s i : Int32) : SpecF 2 M_X12_whyNoPlace [.ref 57, .int s, .int i] xG1 I J (some (.int (f_whyM I s i))) I J := by
  refine specF_of (L := [some (.ref 57), some (.int s), some (.int i)]) (by decide) (Nat.le_of_ble_eq_true rfl) rfl ?_
  refine iX12_whyNoPlace_0 (iX12_whyNoPlace_1 (s_X12_isShelf _) (iX12_whyNoPlace_4 (fun h4 => ?_) (fun h4 => ?_)))
  · have hs := f_in_p (v := s) (a := 0) (b := 5) ‹_›
    have hvs : vp_in s 6 := vin 6 (by decide) (by grind) (by grind)
    refine iX12_whyNoPlace_9 (iX12_whyNoPlace_10 (iX12_whyNoPlace_13 (iX12_whyNoPlace_14 hvs (iX12_whyNoPlace_15 (iX12_whyNoPlace_16 (fun h16 => ?_) (fun h16 => ?_))))))
    · refine iX12_whyNoPlace_22 (iX12_whyNoPlace_23 (iX12_whyNoPlace_26 (iX12_whyNoPlace_27 hvs (iX12_whyNoPlace_28 (fun h28 => ?_) (fun h28 => ?_)))))
      · refine iX12_whyNoPlace_34 (iX12_whyNoPlace_35 (iX12_whyNoPlace_36 (iX12_whyNoPlace_37 (iX12_whyNoPlace_40 (iX12_whyNoPlace_41 hvs (iX12_whyNoPlace_42 (iX12_whyNoPlace_43 (iX12_whyNoPlace_44 (s_X12_in _ _ _) (iX12_whyNoPlace_47 (fun h47 => ?_) (fun h47 => ?_))))))))))
        · refine iX12_whyNoPlace_54 (iX12_whyNoPlace_56 ?_)
          exact ⟨congrArg (fun z => some (Value.int z)) (by simp [f_whyM, *]), rfl, rfl, rfl⟩
        · refine iX12_whyNoPlace_50 (iX12_whyNoPlace_51 (iX12_whyNoPlace_56 ?_))
          exact ⟨congrArg (fun z => some (Value.int z)) (by simp [f_whyM, *]), rfl, rfl, rfl⟩
      · refine iX12_whyNoPlace_31 (iX12_whyNoPlace_33 ?_)
        exact ⟨congrArg (fun z => some (Value.int z)) (by simp [f_whyM, *]), rfl, rfl, rfl⟩
    · refine iX12_whyNoPlace_19 (iX12_whyNoPlace_21 ?_)
      exact ⟨congrArg (fun z => some (Value.int z)) (by simp [f_whyM, *]), rfl, rfl, rfl⟩
  · refine iX12_whyNoPlace_7 (iX12_whyNoPlace_8 ?_)
    exact ⟨congrArg (fun z => some (Value.int z)) (by simp [f_whyM, *]), rfl, rfl, rfl⟩
theorem why_eq (s i : Int32) (hsh : ivSh I J) : f_whyM I s i = f_why I s i := by
  unfold f_whyM f_why
  by_cases h0 : f_in s 0 5 = 0
  · rw [if_pos h0, if_pos h0]
  have hs := f_in_p h0
  have hk : s.toNatClampNeg < 6 := clamp_lt' (N := 6) (by decide) hs.1 (by grind)
  rw [if_neg h0, if_neg h0]
  have hr := hsh _ hk
  generalize s.toNatClampNeg = k at hr hk
  rcases hr with ⟨q1, q2⟩ | ⟨q1, q2, q3, q4⟩ | ⟨q1, q2, q3, q4, q5, q6, q7, q8⟩
  · rw [if_pos q1, if_pos q2]
  · rw [q1, q2, if_neg (by grind), if_pos q3, if_neg (by decide), if_pos (by decide)]
  · have m1 : ∀ t : Nat, t < 5 → ¬ -2 - nI t = -1 ∧ ¬ 0 ≤ -2 - nI t := by decide +kernel
    obtain ⟨t, ht, et⟩ := nI_of2 (x := I (45 + 2 * k) 3) (M := 4) (n := 4) (by decide) (by grind) q4
    have m2 := m1 t (by omega)
    rw [q1, q2, q5, f_hasP_iff q1 q6, et, if_neg m2.1, if_neg m2.2]
    unfold f_in
    grind
end
def xfr (J : xJ) (e lo hi : Nat) (v : Int64) : xJ := fun a b => if a = e ∧ lo ≤ b ∧ b < hi then v else J a b
theorem xfr_0 {J : xJ} {e lo : Nat} {v : Int64} : xfr J e lo lo v = J := by funext a b; simp only [xfr]; grind
theorem xfr_s {J : xJ} {e lo i : Nat} {v : Int64} (h : lo ≤ i) : xu (xfr J e lo i v) e i v = xfr J e lo (i + 1) v := by
  funext a b
  simp only [xu, xfr]
  grind
theorem row_loop {d : Nat} {s t m : Int32} {k : Nat} {I : xI} {J : xJ} (hk : k < 6) (hs : nI k = s) : ∀ n i : Nat, i + n = 60 → WP d (1000000, 0, 0) none M_X12_row (fun r g I2 J2 => r = some (.int 1) ∧ g = xG1 ∧ I2 = I ∧ J2 = xfr J 89 (60 * k) (60 * k + 60) 0) 54 [some (.ref 57), some (.int s), some (.int t), some (.int m), some (.int (nI (60 * k + i)))] [] xG1 I (xfr J 89 (60 * k) (60 * k + i) 0) := by
  subst hs
  have e2 : (60 : Int32) * nI k + 60 = nI (60 * k + 60) := by
    show nI 60 * nI k + nI 60 = _
    rw [pk_mul, nI_add]
  have e3 : (60 : Int32) * nI k + 60 ≤ nI (60 * k + 60) := by rw [e2]; exact Int32.le_refl _
  intro n
  induction n with
  | zero =>
    intro i hi
    obtain rfl : i = 60 := by omega
    refine iX12_row_54 (iX12_row_56 (iX12_row_58 (iX12_row_59 (iX12_row_60 (iX12_row_62 (iX12_row_63 (fun h63 => ?_) (fun h63 => absurd (e3) (by first | exact h63 | exact fun q => q h63))))))))
    refine iX12_row_80 (iX12_row_81 ?_)
    exact ⟨rfl, rfl, rfl, rfl⟩
  | succ n ih =>
    intro i hi
    refine iX12_row_54 (iX12_row_56 (iX12_row_58 (iX12_row_59 (iX12_row_60 (iX12_row_62 (iX12_row_63 (fun h63 => absurd h63 ((show ¬ 60 * nI k + 60 ≤ nI (60 * k + i) by rw [e2]; exact nI_ge (by omega) (by omega)))) (fun h63 => ?_)))))))
    refine iX12_row_66 (iX12_row_67 (iX12_row_70 (iX12_row_72 (iX12_row_73 (vp_in_nI (by omega) (by omega)) (iX12_row_74 (iX12_row_77 ?_))))))
    rw [nI_clamp (by omega), xfr_s (by omega)]
    have e1 : nI (60 * k + i) + (1) = nI (60 * k + (i + 1)) := nI_1 _
    rw [e1]
    exact ih (i + 1) (by omega)
theorem pp_row : PP_row Inv := by
  intro I J h s t n
  obtain ⟨hh, hb, hse, hin, hch, hta, hle, him, hcl, hsh, hlw⟩ := id h
  by_cases hbad : f_in s 0 5 = 0 ∨ t < 0 ∨ 4 < t ∨ 60 < n
  · refine pair_of (v := -1) (v' := -1) (I1 := I) (I2 := I) (J1 := J) (J2 := J) ?_ ?_ rfl h
    · refine specF_of (L := [some (.ref 0), some (.int s), some (.int t), some (.int n)]) (by decide) (Nat.le_of_ble_eq_true rfl) rfl ?_
      refine iX11_row_0 (iX11_row_1 (iX11_row_2 (s_X11_isShelf _) (iX11_row_5 (fun h5 => ?_) (fun h5 => ?_))))
      · refine iX11_row_23 (iX11_row_24 ?_)
        first | exact ⟨rfl, rfl, rfl, rfl⟩ | (exfalso; (try simp only [f_in] at *); grind)
      · refine iX11_row_8 (iX11_row_9 (fun h9 => ?_) (fun h9 => ?_))
        · refine iX11_row_23 (iX11_row_24 ?_)
          first | exact ⟨rfl, rfl, rfl, rfl⟩ | (exfalso; (try simp only [f_in] at *); grind)
        · refine iX11_row_12 (iX11_row_13 (iX11_row_14 (fun h14 => ?_) (fun h14 => ?_)))
          · refine iX11_row_23 (iX11_row_24 ?_)
            first | exact ⟨rfl, rfl, rfl, rfl⟩ | (exfalso; (try simp only [f_in] at *); grind)
          · refine iX11_row_17 (iX11_row_18 (iX11_row_20 (fun h20 => ?_) (fun h20 => ?_)))
            · exfalso
              simp only [f_in] at *
              grind
            · refine iX11_row_23 (iX11_row_24 ?_)
              first | exact ⟨rfl, rfl, rfl, rfl⟩ | (exfalso; (try simp only [f_in] at *); grind)
    · refine specF_of (L := [some (.ref 57), some (.int s), some (.int t), some (.int n), none]) (by decide) (Nat.le_of_ble_eq_true rfl) rfl ?_
      refine iX12_row_0 (iX12_row_1 (s_X12_isShelf _) (iX12_row_4 (fun h4 => ?_) (fun h4 => ?_)))
      · refine iX12_row_22 (iX12_row_23 ?_)
        first | exact ⟨rfl, rfl, rfl, rfl⟩ | (exfalso; (try simp only [f_in] at *); grind)
      · refine iX12_row_7 (iX12_row_8 (iX12_row_9 (iX12_row_10 (s_X12_in _ _ _) (iX12_row_13 (fun h13 => ?_) (fun h13 => ?_)))))
        · refine iX12_row_22 (iX12_row_23 ?_)
          first | exact ⟨rfl, rfl, rfl, rfl⟩ | (exfalso; (try simp only [f_in] at *); grind)
        · refine iX12_row_16 (iX12_row_17 (iX12_row_19 (fun h19 => ?_) (fun h19 => ?_)))
          · exfalso
            simp only [f_in] at *
            grind
          · refine iX12_row_22 (iX12_row_23 ?_)
            first | exact ⟨rfl, rfl, rfl, rfl⟩ | (exfalso; (try simp only [f_in] at *); grind)
  by_cases hneg : n < 0
  · refine pair_of (v := -14) (v' := -14) (I1 := I) (I2 := I) (J1 := J) (J2 := J) ?_ ?_ rfl h
    · refine specF_of (L := [some (.ref 0), some (.int s), some (.int t), some (.int n)]) (by decide) (Nat.le_of_ble_eq_true rfl) rfl ?_
      refine iX11_row_0 (iX11_row_1 (iX11_row_2 (s_X11_isShelf _) (iX11_row_5 (fun h5 => ?_) (fun h5 => ?_))))
      · refine iX11_row_23 (iX11_row_24 ?_)
        first | exact ⟨rfl, rfl, rfl, rfl⟩ | (exfalso; (try simp only [f_in] at *); grind)
      · refine iX11_row_8 (iX11_row_9 (fun h9 => ?_) (fun h9 => ?_))
        · refine iX11_row_23 (iX11_row_24 ?_)
          first | exact ⟨rfl, rfl, rfl, rfl⟩ | (exfalso; (try simp only [f_in] at *); grind)
        · refine iX11_row_12 (iX11_row_13 (iX11_row_14 (fun h14 => ?_) (fun h14 => ?_)))
          · refine iX11_row_23 (iX11_row_24 ?_)
            first | exact ⟨rfl, rfl, rfl, rfl⟩ | (exfalso; (try simp only [f_in] at *); grind)
          · refine iX11_row_17 (iX11_row_18 (iX11_row_20 (fun h20 => ?_) (fun h20 => ?_)))
            · refine iX11_row_25 (iX11_row_26 (fun h26 => ?_) (fun h26 => ?_))
              · exfalso
                grind
              · refine iX11_row_29 (iX11_row_31 ?_)
                first | exact ⟨rfl, rfl, rfl, rfl⟩ | (exfalso; (try simp only [f_in] at *); grind)
            · refine iX11_row_23 (iX11_row_24 ?_)
              first | exact ⟨rfl, rfl, rfl, rfl⟩ | (exfalso; (try simp only [f_in] at *); grind)
    · refine specF_of (L := [some (.ref 57), some (.int s), some (.int t), some (.int n), none]) (by decide) (Nat.le_of_ble_eq_true rfl) rfl ?_
      refine iX12_row_0 (iX12_row_1 (s_X12_isShelf _) (iX12_row_4 (fun h4 => ?_) (fun h4 => ?_)))
      · refine iX12_row_22 (iX12_row_23 ?_)
        first | exact ⟨rfl, rfl, rfl, rfl⟩ | (exfalso; (try simp only [f_in] at *); grind)
      · refine iX12_row_7 (iX12_row_8 (iX12_row_9 (iX12_row_10 (s_X12_in _ _ _) (iX12_row_13 (fun h13 => ?_) (fun h13 => ?_)))))
        · refine iX12_row_22 (iX12_row_23 ?_)
          first | exact ⟨rfl, rfl, rfl, rfl⟩ | (exfalso; (try simp only [f_in] at *); grind)
        · refine iX12_row_16 (iX12_row_17 (iX12_row_19 (fun h19 => ?_) (fun h19 => ?_)))
          · refine iX12_row_24 (iX12_row_25 (fun h25 => ?_) (fun h25 => ?_))
            · exfalso
              grind
            · refine iX12_row_28 (iX12_row_30 ?_)
              first | exact ⟨rfl, rfl, rfl, rfl⟩ | (exfalso; (try simp only [f_in] at *); grind)
          · refine iX12_row_22 (iX12_row_23 ?_)
            first | exact ⟨rfl, rfl, rfl, rfl⟩ | (exfalso; (try simp only [f_in] at *); grind)
  have hs := f_in_p (v := s) (a := 0) (b := 5) (by grind)
  have hk : s.toNatClampNeg < 6 := clamp_lt' (N := 6) (by decide) hs.1 (by grind)
  have hvs : vp_in s 6 := vin 6 (by decide) (by grind) (by grind)
  have hx := xSh_at hk
  have hkk := clamp_nI hs.1
  let k := s.toNatClampNeg
  refine pair_of (v := 1) (v' := 1) (I1 := xu (xu (xu I (45 + 2 * k) 1 2) (45 + 2 * k) 3 t) (45 + 2 * k) 4 n) (J1 := xf J (46 + 2 * k) 60 0) (I2 := xu (xu (xu (xu (xu I (45 + 2 * k) 1 2) (45 + 2 * k) 3 t) (45 + 2 * k) 4 n) 87 k (-2 - t)) 88 k n) (J2 := xfr (xf J (46 + 2 * k) 60 0) 89 (60 * k) (60 * k + 60) 0) ?_ ?_ rfl ?_
  · refine specF_of (L := [some (.ref 0), some (.int s), some (.int t), some (.int n)]) (by decide) (Nat.le_of_ble_eq_true rfl) rfl ?_
    refine iX11_row_0 (iX11_row_1 (iX11_row_2 (s_X11_isShelf _) (iX11_row_5 (fun h5 => ?_) (fun h5 => ?_))))
    · refine iX11_row_23 (iX11_row_24 ?_)
      first | exact ⟨rfl, rfl, rfl, rfl⟩ | (exfalso; (try simp only [f_in] at *); grind)
    · refine iX11_row_8 (iX11_row_9 (fun h9 => ?_) (fun h9 => ?_))
      · refine iX11_row_23 (iX11_row_24 ?_)
        first | exact ⟨rfl, rfl, rfl, rfl⟩ | (exfalso; (try simp only [f_in] at *); grind)
      · refine iX11_row_12 (iX11_row_13 (iX11_row_14 (fun h14 => ?_) (fun h14 => ?_)))
        · refine iX11_row_23 (iX11_row_24 ?_)
          first | exact ⟨rfl, rfl, rfl, rfl⟩ | (exfalso; (try simp only [f_in] at *); grind)
        · refine iX11_row_17 (iX11_row_18 (iX11_row_20 (fun h20 => ?_) (fun h20 => ?_)))
          · refine iX11_row_25 (iX11_row_26 (fun h26 => ?_) (fun h26 => ?_))
            · refine iX11_row_32 (iX11_row_33 (iX11_row_36 (iX11_row_37 hvs (shelf_at hk).1 (iX11_row_38 (iX11_row_39 (iX11_row_40 hx.1 (s_X9_holdRow _ _ hx (by grind) (by grind)) (iX11_row_43 (iX11_row_44 ?_))))))))
              first | exact ⟨rfl, rfl, rfl, rfl⟩ | (exfalso; (try simp only [f_in] at *); grind)
            · refine iX11_row_29 (iX11_row_31 ?_)
              first | exact ⟨rfl, rfl, rfl, rfl⟩ | (exfalso; (try simp only [f_in] at *); grind)
          · refine iX11_row_23 (iX11_row_24 ?_)
            first | exact ⟨rfl, rfl, rfl, rfl⟩ | (exfalso; (try simp only [f_in] at *); grind)
  · refine specF_of (L := [some (.ref 57), some (.int s), some (.int t), some (.int n), none]) (by decide) (Nat.le_of_ble_eq_true rfl) rfl ?_
    have e4 : nI (60 * k + 0) = 60 * s := by rw [Nat.add_zero, ← pk_mul, hkk]; rfl
    have e5 : xfr (xf J (46 + 2 * k) 60 0) 89 (60 * k) (60 * k + 0) 0 = xf J (46 + 2 * k) 60 0 := xfr_0
    refine iX12_row_0 (iX12_row_1 (s_X12_isShelf _) (iX12_row_4 (fun h4 => ?_) (fun h4 => ?_)))
    · refine iX12_row_22 (iX12_row_23 ?_)
      first | exact ⟨rfl, rfl, rfl, rfl⟩ | (exfalso; (try simp only [f_in] at *); grind)
    · refine iX12_row_7 (iX12_row_8 (iX12_row_9 (iX12_row_10 (s_X12_in _ _ _) (iX12_row_13 (fun h13 => ?_) (fun h13 => ?_)))))
      · refine iX12_row_22 (iX12_row_23 ?_)
        first | exact ⟨rfl, rfl, rfl, rfl⟩ | (exfalso; (try simp only [f_in] at *); grind)
      · refine iX12_row_16 (iX12_row_17 (iX12_row_19 (fun h19 => ?_) (fun h19 => ?_)))
        · refine iX12_row_24 (iX12_row_25 (fun h25 => ?_) (fun h25 => ?_))
          · refine iX12_row_31 (iX12_row_32 (iX12_row_35 (iX12_row_36 (iX12_row_38 (iX12_row_39 (iX12_row_40 hvs (iX12_row_41 (iX12_row_42 (iX12_row_45 (iX12_row_46 (iX12_row_47 hvs (iX12_row_48 (iX12_row_50 (iX12_row_51 (iX12_row_52 ?_)))))))))))))))
            have := row_loop (d := 1000) (s := s) (t := t) (m := n) (k := k) (I := xu (xu (xu (xu (xu I (45 + 2 * k) 1 2) (45 + 2 * k) 3 t) (45 + 2 * k) 4 n) 87 k (-2 - t)) 88 k n) (J := xf J (46 + 2 * k) 60 0) hk hkk 60 0 (by omega)
            rw [e4, e5] at this
            exact this
          · refine iX12_row_28 (iX12_row_30 ?_)
            first | exact ⟨rfl, rfl, rfl, rfl⟩ | (exfalso; (try simp only [f_in] at *); grind)
        · refine iX12_row_22 (iX12_row_23 ?_)
          first | exact ⟨rfl, rfl, rfl, rfl⟩ | (exfalso; (try simp only [f_in] at *); grind)
  have hkd : k = s.toNatClampNeg := rfl
  clear_value k
  subst hkd
  generalize s.toNatClampNeg = k at hk hx hkk
  have g1 : ∀ a b, sup a b = true → (xu (xu (xu I (45 + 2 * k) 1 2) (45 + 2 * k) 3 t) (45 + 2 * k) 4 n) a b = I a b := frx (sup_sh hk) (frx (sup_sh hk) (frx (sup_sh hk) fr0))
  refine inv_frame h (frx rfl (frx rfl g1)) (ivSh_upd hsh k (by simp only [xu]; grind) (fun u hu hn => ?_) (Or.inr (Or.inr ?_)))
  · refine ⟨by simp (disch := omega) only [xu_rowf], ?_, by simp only [xu]; grind, by simp only [xu]; grind, fun j hj => ?_⟩
    · funext b; simp only [xf, xfr]; grind
    · simp only [xf, xfr]; grind
  · refine ⟨?_, ?_, ?_, ?_, ?_, ?_, ?_, fun j hj => ?_⟩
    · simp only [xu]; grind
    · simp only [xu]; grind
    · simp only [xu]; grind
    · simp only [xu]; grind
    · simp only [xu]; grind
    · simp only [xu]; grind
    · simp only [xu]; grind
    · simp only [xf, xfr]; grind
theorem f_in_1' {v a b : Int32} (h : f_in v a b = 1) : a ≤ v ∧ v ≤ b := f_in_p (by rw [h]; decide)
theorem why_0 {I : xI} {s i : Int32} (h : f_why I s i = 0) : 0 ≤ s ∧ s ≤ 5 ∧ I (45 + 2 * s.toNatClampNeg) 1 = 2 ∧ f_hasP I (45 + 2 * s.toNatClampNeg) i 1 = 1 := by
  unfold f_why at h
  by_cases h0 : f_in s 0 5 = 0
  · rw [if_pos h0] at h; exact absurd h (by decide)
  have := f_in_p h0
  have := f_hasP_01 (I := I) (a := 45 + 2 * s.toNatClampNeg) (i := i) (n := 1)
  grind
theorem why_neg {I : xI} {s i : Int32} (h : ¬ f_why I s i = 0) : f_why I s i < 0 := by
  unfold f_why at h ⊢
  grind
/-- what stands behind a place that isn't refused -/
theorem why_place {I : xI} {J : xJ} {s i : Int32} (hsh : ivSh I J) (h : f_why I s i = 0) : ∃ k m : Nat, k < 6 ∧ m < 60 ∧ s = nI k ∧ i = nI m ∧ s.toNatClampNeg = k ∧ i.toNatClampNeg = m ∧ xSh (45 + 2 * k) (46 + 2 * k) ∧ f_hasP I (45 + 2 * k) i 1 = 1 ∧ I (45 + 2 * k) 1 = 2 ∧ I 87 k = -2 - I (45 + 2 * k) 3 ∧ 0 ≤ I (45 + 2 * k) 3 ∧ I (45 + 2 * k) 3 ≤ 4 ∧ I 88 k = I (45 + 2 * k) 4 ∧ 0 ≤ I (45 + 2 * k) 4 ∧ I (45 + 2 * k) 4 ≤ 60 ∧ (∀ j : Nat, j < 60 → J 89 (60 * k + j) = J (46 + 2 * k) j) ∧ (60 * s + i).toNatClampNeg = 60 * k + m ∧ vp_in (60 * s + i) 360 ∧ vp_in s 6 := by
  obtain ⟨h0, h1, h2, h3⟩ := why_0 h
  have hk : s.toNatClampNeg < 6 := clamp_lt' (N := 6) (by decide) h0 (by grind)
  have hr := hsh _ hk
  have hx := xSh_at hk
  obtain ⟨k, hk6, rfl⟩ := nI_of2 (M := 5) (n := 5) (by decide) (by grind) h1
  have e1 : (nI k).toNatClampNeg = k := nI_clamp (by omega)
  rw [e1] at h2 h3 hr hx
  unfold shRel at hr
  rw [h2] at hr
  rcases hr with a | a | ⟨q1, q2, q3, q4, q5, q6, q7, q8⟩
  · exact absurd a.1 (by decide)
  · exact absurd a.1 (by decide)
  have h5 := f_hasP_1 h3 q7
  obtain ⟨m, hm, rfl⟩ := nI_of2 (x := i) (M := 59) (n := 59) (by decide) h5.1 (by grind)
  have e2 : (60 : Int32) * nI k + nI m = nI (60 * k + m) := by
    show nI 60 * nI k + nI m = _
    rw [pk_mul, nI_add]
  refine ⟨k, m, by omega, by omega, rfl, rfl, e1, nI_clamp (by omega), hx, h3, h2, q2, q3, q4, q5, q6, q7, q8, ?_, ?_, vp_in_nI (by omega) (by omega)⟩
  · rw [e2, nI_clamp (by omega)]
  · rw [e2]; exact vp_in_nI (by omega) (by omega)
theorem pp_element : PP_element Inv := by
  intro I J h s i
  obtain ⟨hh, hb, hse, hin, hch, hta, hle, him, hcl, hsh, hlw⟩ := id h
  have hw := why_eq s i hsh
  by_cases h0 : f_why I s i = 0
  · obtain ⟨k, m, hk, hm, es, ei, ek, em, hx, hp, q1, q2, q3, q4, q5, q6, q7, q8, ea, hv, hvs⟩ := why_place hsh h0
    refine pairJ_of (v := J (46 + 2 * k) m) (v' := J 89 (60 * k + m)) (I1 := I) (I2 := I) (J1 := J) (J2 := J) ?_ ?_ (q8 m hm) h
    · refine specF_of (L := [some (.ref 0), some (.int s), some (.int i)]) (by decide) (Nat.le_of_ble_eq_true rfl) rfl ?_
      refine iX11_element_0 (iX11_element_1 (iX11_element_2 (iX11_element_3 (s_X11_refusalOfPlace _ _) (iX11_element_6 (fun h6 => absurd h6 (fun q => q h0)) (fun h6 => ?_)))))
      refine iX11_element_9 (iX11_element_10 (iX11_element_13 (iX11_element_14 hvs (shelf_at (by rw [ek]; exact hk)).1 (iX11_element_15 (iX11_element_16 (by rw [ek]; exact hx.1) (by rw [ek]; exact s_X9_get _ hx hp q7) (iX11_element_19 (iX11_element_25 ?_)))))))
      rw [em]
      exact ⟨rfl, rfl, rfl, rfl⟩
    · refine specF_of (L := [some (.ref 57), some (.int s), some (.int i)]) (by decide) (Nat.le_of_ble_eq_true rfl) rfl ?_
      have e0 : 0 ≤ f_whyM I s i := by rw [hw, h0]; decide
      refine iX12_element_0 (iX12_element_1 (iX12_element_2 (iX12_element_3 (s_X12_whyNoPlace _ _) (iX12_element_6 (fun h6 => ?_) (fun h6 => absurd (e0) (by first | exact h6 | exact fun q => q h6))))))
      refine iX12_element_15 (iX12_element_16 (iX12_element_19 (iX12_element_21 (iX12_element_22 (iX12_element_23 (iX12_element_24 (iX12_element_25 hv (iX12_element_26 ?_))))))))
      rw [ea]
      exact ⟨rfl, rfl, rfl, rfl⟩
  · refine pairJ_of (v := -9223372036854775808) (v' := -9223372036854775808) (I1 := I) (I2 := I) (J1 := J) (J2 := J) ?_ ?_ rfl h
    · refine specF_of (L := [some (.ref 0), some (.int s), some (.int i)]) (by decide) (Nat.le_of_ble_eq_true rfl) rfl ?_
      refine iX11_element_0 (iX11_element_1 (iX11_element_2 (iX11_element_3 (s_X11_refusalOfPlace _ _) (iX11_element_6 (fun h6 => ?_) (fun h6 => absurd (h0) (by first | exact h6 | exact fun q => q h6))))))
      refine iX11_element_22 (iX11_element_25 ?_)
      first | exact ⟨rfl, rfl, rfl, rfl⟩ | (exfalso; (try simp only [f_in] at *); grind)
    · refine specF_of (L := [some (.ref 57), some (.int s), some (.int i)]) (by decide) (Nat.le_of_ble_eq_true rfl) rfl ?_
      have e0 : ¬ 0 ≤ f_whyM I s i := by rw [hw]; have := why_neg h0; grind
      refine iX12_element_0 (iX12_element_1 (iX12_element_2 (iX12_element_3 (s_X12_whyNoPlace _ _) (iX12_element_6 (fun h6 => absurd h6 (e0)) (fun h6 => ?_)))))
      refine iX12_element_9 (iX12_element_12 (iX12_element_26 ?_))
      first | exact ⟨rfl, rfl, rfl, rfl⟩ | (exfalso; (try simp only [f_in] at *); grind)
theorem pp_put : PP_put Inv := by
  intro I J h s i v
  obtain ⟨hh, hb, hse, hin, hch, hta, hle, him, hcl, hsh, hlw⟩ := id h
  have hw := why_eq s i hsh
  by_cases h0 : f_why I s i = 0
  · obtain ⟨k, m, hk, hm, es, ei, ek, em, hx, hp, q1, q2, q3, q4, q5, q6, q7, q8, ea, hv, hvs⟩ := why_place hsh h0
    refine pair_of (v := 1) (v' := 1) (I1 := I) (I2 := I) (J1 := xu J (46 + 2 * k) m (f_cut I (45 + 2 * k) v)) (J2 := xu (xu J (46 + 2 * k) m (f_cut I (45 + 2 * k) v)) 89 (60 * k + m) (f_cut I (45 + 2 * k) v)) ?_ ?_ rfl ?_
    · refine specF_of (L := [some (.ref 0), some (.int s), some (.int i), some (.long v), none, none]) (by decide) (Nat.le_of_ble_eq_true rfl) rfl ?_
      refine iX11_put_0 (iX11_put_1 (iX11_put_2 (iX11_put_3 (s_X11_refusalOfPlace _ _) (iX11_put_6 (iX11_put_8 (iX11_put_10 (fun h10 => ?_) (fun h10 => absurd (h0) (by first | exact h10 | exact fun q => q h10))))))))
      refine iX11_put_16 (iX11_put_17 (iX11_put_20 (iX11_put_21 hvs (shelf_at (by rw [ek]; exact hk)).1 (iX11_put_22 (iX11_put_23 (iX11_put_24 (by rw [ek]; exact hx.1) (by rw [ek]; exact s_X9_set _ _ hx hp q7) (iX11_put_27 (iX11_put_28 ?_))))))))
      rw [em]
      exact ⟨rfl, rfl, rfl, rfl⟩
    · refine specF_of (L := [some (.ref 57), some (.int s), some (.int i), some (.long v), none, none, none]) (by decide) (Nat.le_of_ble_eq_true rfl) rfl ?_
      have e0 : 0 ≤ f_whyM I s i := by rw [hw, h0]; decide
      refine iX12_put_0 (iX12_put_1 (iX12_put_2 (iX12_put_3 (s_X12_whyNoPlace _ _) (iX12_put_6 (iX12_put_8 (iX12_put_10 (fun h10 => ?_) (fun h10 => absurd (e0) (by first | exact h10 | exact fun q => q h10))))))))
      refine iX12_put_16 (iX12_put_18 (iX12_put_19 (iX12_put_22 (iX12_put_23 hvs (iX12_put_24 (iX12_put_25 (iX12_put_27 (iX12_put_28 (iX12_put_31 (iX12_put_33 (iX12_put_34 (iX12_put_35 (iX12_put_36 (iX12_put_37 (iX12_put_39 (fun h39 => ?_) (fun h39 => ?_))))))))))))))))
      · refine iX12_put_49 (iX12_put_51 (iX12_put_52 (fun h52 => ?_) (fun h52 => ?_)))
        · refine iX12_put_62 (iX12_put_64 (iX12_put_65 (fun h65 => ?_) (fun h65 => ?_)))
          · refine iX12_put_74 (iX12_put_76 (iX12_put_77 (fun h77 => ?_) (fun h77 => ?_)))
            · refine iX12_put_84 (iX12_put_85 (iX12_put_86 (iX12_put_87 (fun h87 => ?_) (fun h87 => ?_))))
              · refine iX12_put_94 (iX12_put_95 hv (iX12_put_96 (iX12_put_97 ?_)))
                have e7 : -2 - I 87 s.toNatClampNeg = I (45 + 2 * k) 3 := by rw [ek, q2]; grind
                refine ⟨rfl, rfl, rfl, ?_⟩
                rw [ea]
                refine congrArg (fun z => xu _ _ _ z) ?_
                clear hw q2 q5 q8
                generalize -2 - I 87 s.toNatClampNeg = T at *
                subst e7
                simp [f_cut, *, ← lgc_0]
              · refine iX12_put_90 (iX12_put_91 (iX12_put_95 hv (iX12_put_96 (iX12_put_97 ?_))))
                have e7 : -2 - I 87 s.toNatClampNeg = I (45 + 2 * k) 3 := by rw [ek, q2]; grind
                refine ⟨rfl, rfl, rfl, ?_⟩
                rw [ea]
                refine congrArg (fun z => xu _ _ _ z) ?_
                clear hw q2 q5 q8
                generalize -2 - I 87 s.toNatClampNeg = T at *
                subst e7
                simp [f_cut, *, ← lgc_0]
            · refine iX12_put_80 (iX12_put_81 (iX12_put_95 hv (iX12_put_96 (iX12_put_97 ?_))))
              have e7 : -2 - I 87 s.toNatClampNeg = I (45 + 2 * k) 3 := by rw [ek, q2]; grind
              refine ⟨rfl, rfl, rfl, ?_⟩
              rw [ea]
              refine congrArg (fun z => xu _ _ _ z) ?_
              clear hw q2 q5 q8
              generalize -2 - I 87 s.toNatClampNeg = T at *
              subst e7
              simp [f_cut, *, ← lgc_0]
          · refine iX12_put_68 (iX12_put_69 (iX12_put_70 (iX12_put_71 (iX12_put_95 hv (iX12_put_96 (iX12_put_97 ?_))))))
            have e7 : -2 - I 87 s.toNatClampNeg = I (45 + 2 * k) 3 := by rw [ek, q2]; grind
            refine ⟨rfl, rfl, rfl, ?_⟩
            rw [ea]
            refine congrArg (fun z => xu _ _ _ z) ?_
            clear hw q2 q5 q8
            generalize -2 - I 87 s.toNatClampNeg = T at *
            subst e7
            simp [f_cut, *, ← lgc_0]
        · refine iX12_put_55 (iX12_put_56 (iX12_put_57 (iX12_put_58 (iX12_put_59 (iX12_put_95 hv (iX12_put_96 (iX12_put_97 ?_)))))))
          have e7 : -2 - I 87 s.toNatClampNeg = I (45 + 2 * k) 3 := by rw [ek, q2]; grind
          refine ⟨rfl, rfl, rfl, ?_⟩
          rw [ea]
          refine congrArg (fun z => xu _ _ _ z) ?_
          clear hw q2 q5 q8
          generalize -2 - I 87 s.toNatClampNeg = T at *
          subst e7
          simp [f_cut, *, ← lgc_0]
      · refine iX12_put_42 (iX12_put_43 (iX12_put_44 (iX12_put_45 (iX12_put_46 (iX12_put_95 hv (iX12_put_96 (iX12_put_97 ?_)))))))
        have e7 : -2 - I 87 s.toNatClampNeg = I (45 + 2 * k) 3 := by rw [ek, q2]; grind
        refine ⟨rfl, rfl, rfl, ?_⟩
        rw [ea]
        refine congrArg (fun z => xu _ _ _ z) ?_
        clear hw q2 q5 q8
        generalize -2 - I 87 s.toNatClampNeg = T at *
        subst e7
        simp [f_cut, *, ← lgc_0]
    refine inv_frame h fr0 (ivSh_upd hsh k rfl (fun u hu hn => ?_) (Or.inr (Or.inr ⟨q1, q2, q3, q4, q5, q6, q7, fun j hj => ?_⟩)))
    · exact ⟨rfl, by funext b; simp only [xu]; grind, rfl, rfl, fun j hj => by simp only [xu]; grind⟩
    · have := q8 j hj
      simp only [xu]; grind
  · refine pair_of (v := f_why I s i) (v' := f_whyM I s i) (I1 := I) (I2 := I) (J1 := J) (J2 := J) ?_ ?_ hw h
    · refine specF_of (L := [some (.ref 0), some (.int s), some (.int i), some (.long v), none, none]) (by decide) (Nat.le_of_ble_eq_true rfl) rfl ?_
      refine iX11_put_0 (iX11_put_1 (iX11_put_2 (iX11_put_3 (s_X11_refusalOfPlace _ _) (iX11_put_6 (iX11_put_8 (iX11_put_10 (fun h10 => absurd h10 (h0)) (fun h10 => ?_)))))))
      refine iX11_put_13 (iX11_put_15 ?_)
      first | exact ⟨rfl, rfl, rfl, rfl⟩ | (exfalso; (try simp only [f_in] at *); grind)
    · refine specF_of (L := [some (.ref 57), some (.int s), some (.int i), some (.long v), none, none, none]) (by decide) (Nat.le_of_ble_eq_true rfl) rfl ?_
      have e0 : ¬ 0 ≤ f_whyM I s i := by rw [hw]; have := why_neg h0; grind
      refine iX12_put_0 (iX12_put_1 (iX12_put_2 (iX12_put_3 (s_X12_whyNoPlace _ _) (iX12_put_6 (iX12_put_8 (iX12_put_10 (fun h10 => absurd h10 (e0)) (fun h10 => ?_)))))))
      refine iX12_put_13 (iX12_put_15 ?_)
      first | exact ⟨rfl, rfl, rfl, rfl⟩ | (exfalso; (try simp only [f_in] at *); grind)
theorem pp_taken : PP_taken Inv := by
  intro I J h s o
  obtain ⟨hh, hb, hse, hin, hch, hta, hle, him, hcl, hsh, hlw⟩ := id h
  obtain ⟨c1, hC0, hC50, c4, c5, c6, c7, c8⟩ := id hcl
  by_cases hbad : f_in s 0 5 = 0 ∨ f_in o 0 7 = 0
  · refine pair_of (v := -1) (v' := -1) (I1 := I) (I2 := I) (J1 := J) (J2 := J) ?_ ?_ rfl h
    · refine specF_of (L := [some (.ref 0), some (.int s), some (.int o), none]) (by decide) (Nat.le_of_ble_eq_true rfl) rfl ?_
      refine iX11_taken_0 (iX11_taken_1 (iX11_taken_2 (s_X11_isShelf _) (iX11_taken_5 (fun h5 => ?_) (fun h5 => ?_))))
      · refine iX11_taken_15 (iX11_taken_16 ?_)
        first | exact ⟨rfl, rfl, rfl, rfl⟩ | (exfalso; (try simp only [f_in] at *); grind)
      · refine iX11_taken_8 (iX11_taken_9 (s_X3_isKind _) (iX11_taken_12 (fun h12 => ?_) (fun h12 => ?_)))
        · exfalso
          grind
        · refine iX11_taken_15 (iX11_taken_16 ?_)
          first | exact ⟨rfl, rfl, rfl, rfl⟩ | (exfalso; (try simp only [f_in] at *); grind)
    · refine specF_of (L := [some (.ref 57), some (.int s), some (.int o)]) (by decide) (Nat.le_of_ble_eq_true rfl) rfl ?_
      refine iX12_taken_0 (iX12_taken_1 (s_X12_isShelf _) (iX12_taken_4 (fun h4 => ?_) (fun h4 => ?_)))
      · refine iX12_taken_17 (iX12_taken_18 ?_)
        first | exact ⟨rfl, rfl, rfl, rfl⟩ | (exfalso; (try simp only [f_in] at *); grind)
      · refine iX12_taken_7 (iX12_taken_8 (iX12_taken_9 (iX12_taken_11 (s_X12_in _ _ _) (iX12_taken_14 (fun h14 => ?_) (fun h14 => ?_)))))
        · exfalso
          grind
        · refine iX12_taken_17 (iX12_taken_18 ?_)
          first | exact ⟨rfl, rfl, rfl, rfl⟩ | (exfalso; (try simp only [f_in] at *); grind)
  have hs := f_in_p (v := s) (a := 0) (b := 5) (by grind)
  have ho := f_in_p (v := o) (a := 0) (b := 7) (by grind)
  have hk : s.toNatClampNeg < 6 := clamp_lt' (N := 6) (by decide) hs.1 (by grind)
  have hvs : vp_in s 6 := vin 6 (by decide) (by grind) (by grind)
  have hx := xSh_at hk
  have hr := hsh _ hk
  rcases hr with ⟨q1, q2⟩ | ⟨q1, q2, q3, q4⟩ | ⟨q1, q2, q3, q4, q5, q6, q7, q8⟩
  · refine pair_of (v := -11) (v' := -11) (I1 := I) (I2 := I) (J1 := J) (J2 := J) ?_ ?_ rfl h
    · refine specF_of (L := [some (.ref 0), some (.int s), some (.int o), none]) (by decide) (Nat.le_of_ble_eq_true rfl) rfl ?_
      refine iX11_taken_0 (iX11_taken_1 (iX11_taken_2 (s_X11_isShelf _) (iX11_taken_5 (fun h5 => ?_) (fun h5 => ?_))))
      · refine iX11_taken_15 (iX11_taken_16 ?_)
        exfalso; grind
      · refine iX11_taken_8 (iX11_taken_9 (s_X3_isKind _) (iX11_taken_12 (fun h12 => ?_) (fun h12 => ?_)))
        · refine iX11_taken_17 (iX11_taken_18 (iX11_taken_21 (iX11_taken_22 hvs (shelf_at hk).1 (iX11_taken_23 (hx).1 (s_X9_isEmpty hx) (iX11_taken_26 (fun h26 => ?_) (fun h26 => ?_))))))
          · exfalso
            simp only [q1] at *
            grind
          · refine iX11_taken_29 (iX11_taken_31 ?_)
            first | exact ⟨rfl, rfl, rfl, rfl⟩ | (exfalso; (try simp only [f_in] at *); grind)
        · refine iX11_taken_15 (iX11_taken_16 ?_)
          exfalso; grind
    · refine specF_of (L := [some (.ref 57), some (.int s), some (.int o)]) (by decide) (Nat.le_of_ble_eq_true rfl) rfl ?_
      refine iX12_taken_0 (iX12_taken_1 (s_X12_isShelf _) (iX12_taken_4 (fun h4 => ?_) (fun h4 => ?_)))
      · refine iX12_taken_17 (iX12_taken_18 ?_)
        exfalso; grind
      · refine iX12_taken_7 (iX12_taken_8 (iX12_taken_9 (iX12_taken_11 (s_X12_in _ _ _) (iX12_taken_14 (fun h14 => ?_) (fun h14 => ?_)))))
        · refine iX12_taken_19 (iX12_taken_20 (iX12_taken_23 (iX12_taken_24 hvs (iX12_taken_25 (iX12_taken_26 (fun h26 => ?_) (fun h26 => ?_))))))
          · exfalso
            grind
          · refine iX12_taken_29 (iX12_taken_31 ?_)
            first | exact ⟨rfl, rfl, rfl, rfl⟩ | (exfalso; (try simp only [f_in] at *); grind)
        · refine iX12_taken_17 (iX12_taken_18 ?_)
          exfalso; grind
  · obtain ⟨b, hb50, eb⟩ := nI_of2 (x := I (45 + 2 * s.toNatClampNeg) 2) (M := 49) (n := 49) (by decide) (by grind) (by grind)
    obtain ⟨d1, d2, d3⟩ := c4 b (by omega)
    have hu := under_eq d2 d3 ho.1 ho.2
    have ec : (nI b).toNatClampNeg = b := nI_clamp (by omega)
    have h3 : f_has3 I (nI b) = 1 := by rw [← eb]; unfold f_has3; grind
    have n5 : ¬ f_in s 0 5 = 0 := by grind
    have n12 : ¬ f_in o 0 7 = 0 := by grind
    have sB : ∀ J, SpecF 0 M_X9_heldBody [.ref (45 + 2 * s.toNatClampNeg)] xG1 I J (some (.int (nI b))) I J := fun J => by have := s_X9_heldBody (I := I) (J := J) hx; rw [if_pos q1, eb] at this; exact this
    have sK : ∀ J, SpecF 1 M_X3_kindOf [.ref 41, .int (nI b)] xG1 I J (some (.int (I 42 b))) I J := fun J => by have := s_X3_kindOf (J := J) (nI b) hC50; rw [if_pos h3, ec] at this; exact this
    have e26 : (if I (45 + 2 * s.toNatClampNeg) 1 = 0 then (1 : Int32) else 0) = 0 := by rw [q1]; rfl
    have e85 : I 85 (I 87 s.toNatClampNeg).toNatClampNeg = I 42 b := by rw [q2, eb, ec, d1]
    have m26 : ¬ I 87 s.toNatClampNeg = -1 := by rw [q2]; grind
    have m38 : ¬ I 87 s.toNatClampNeg < 0 := by rw [q2]; grind
    refine pair_of (v := if f_underC 8 (I 42 b) o = 0 then -12 else I 42 b) (v' := if f_underC 8 (I 42 b) o = 0 then -12 else I 42 b) (I1 := I) (I2 := I) (J1 := J) (J2 := J) ?_ ?_ rfl h
    · refine specF_of (L := [some (.ref 0), some (.int s), some (.int o), none]) (by decide) (Nat.le_of_ble_eq_true rfl) rfl ?_
      refine iX11_taken_0 (iX11_taken_1 (iX11_taken_2 (s_X11_isShelf _) (iX11_taken_5 (fun h5 => absurd h5 (n5)) (fun h5 => ?_))))
      refine iX11_taken_8 (iX11_taken_9 (s_X3_isKind _) (iX11_taken_12 (fun h12 => ?_) (fun h12 => absurd (n12) (by first | exact h12 | exact fun q => q h12))))
      refine iX11_taken_17 (iX11_taken_18 (iX11_taken_21 (iX11_taken_22 hvs (shelf_at hk).1 (iX11_taken_23 (hx).1 (s_X9_isEmpty hx) (iX11_taken_26 (fun h26 => ?_) (fun h26 => absurd (e26) (by first | exact h26 | exact fun q => q h26)))))))
      refine iX11_taken_32 (iX11_taken_33 (iX11_taken_36 (iX11_taken_37 (iX11_taken_40 (iX11_taken_41 hvs (shelf_at hk).1 (iX11_taken_42 hx.1 (sB _) (iX11_taken_45 (sK _) (iX11_taken_48 (iX11_taken_49 (iX11_taken_50 (iX11_taken_51 (s_X3_isUnder _ _) (iX11_taken_54 (fun h54 => ?_) (fun h54 => ?_)))))))))))))
      · refine iX11_taken_61 (iX11_taken_63 ?_)
        exact ⟨by simp [h54], rfl, rfl, rfl⟩
      · refine iX11_taken_57 (iX11_taken_58 (iX11_taken_63 ?_))
        exact ⟨by simp [h54], rfl, rfl, rfl⟩
    · refine specF_of (L := [some (.ref 57), some (.int s), some (.int o)]) (by decide) (Nat.le_of_ble_eq_true rfl) rfl ?_
      refine iX12_taken_0 (iX12_taken_1 (s_X12_isShelf _) (iX12_taken_4 (fun h4 => absurd h4 (n5)) (fun h4 => ?_)))
      refine iX12_taken_7 (iX12_taken_8 (iX12_taken_9 (iX12_taken_11 (s_X12_in _ _ _) (iX12_taken_14 (fun h14 => ?_) (fun h14 => absurd (n12) (by first | exact h14 | exact fun q => q h14))))))
      refine iX12_taken_19 (iX12_taken_20 (iX12_taken_23 (iX12_taken_24 hvs (iX12_taken_25 (iX12_taken_26 (fun h26 => ?_) (fun h26 => absurd (m26) (by first | exact h26 | exact fun q => q h26)))))))
      refine iX12_taken_32 (iX12_taken_33 (iX12_taken_36 (iX12_taken_37 hvs (iX12_taken_38 (fun h38 => absurd h38 (m38)) (fun h38 => ?_)))))
      refine iX12_taken_41 (iX12_taken_42 (iX12_taken_45 (iX12_taken_46 (iX12_taken_49 (iX12_taken_50 hvs (iX12_taken_51 (by rw [q2, eb]; exact vp_in_nI (by omega) (by omega)) (iX12_taken_52 (iX12_taken_53 (s_X12_isUnder _ _) (iX12_taken_56 (fun h56 => ?_) (fun h56 => ?_))))))))))
      · refine iX12_taken_73 (iX12_taken_75 ?_)
        rw [e85, ← hu] at h56
        exact ⟨by simp [h56, e85], rfl, rfl, rfl⟩
      · refine iX12_taken_59 (iX12_taken_60 (iX12_taken_63 (iX12_taken_64 (iX12_taken_67 (iX12_taken_68 hvs (iX12_taken_69 (by rw [q2, eb]; exact vp_in_nI (by omega) (by omega)) (iX12_taken_70 (iX12_taken_75 ?_))))))))
        rw [e85, ← hu] at h56
        exact ⟨by simp [h56, e85], rfl, rfl, rfl⟩
  · have n5 : ¬ f_in s 0 5 = 0 := by grind
    have n12 : ¬ f_in o 0 7 = 0 := by grind
    have sB : ∀ J, SpecF 0 M_X9_heldBody [.ref (45 + 2 * s.toNatClampNeg)] xG1 I J (some (.int (-1))) I J := fun J => by have := s_X9_heldBody (I := I) (J := J) hx; rw [if_neg (by rw [q1]; decide)] at this; exact this
    have sK : ∀ J, SpecF 1 M_X3_kindOf [.ref 41, .int (-1)] xG1 I J (some (.int (-1))) I J := fun J => by have := s_X3_kindOf (J := J) (-1) hC50; rw [if_neg (by unfold f_has3; rw [if_neg (by rintro ⟨x, y⟩; exact absurd x (by decide))]; decide)] at this; exact this
    have e26 : (if I (45 + 2 * s.toNatClampNeg) 1 = 0 then (1 : Int32) else 0) = 0 := by rw [q1]; rfl
    have m1 : ∀ t : Nat, t < 5 → ¬ -2 - nI t = -1 ∧ -2 - nI t < 0 := by decide +kernel
    obtain ⟨t, ht, et⟩ := nI_of2 (x := I (45 + 2 * s.toNatClampNeg) 3) (M := 4) (n := 4) (by decide) (by grind) q4
    have m26 : ¬ I 87 s.toNatClampNeg = -1 := by rw [q2, et]; exact (m1 t (by omega)).1
    have m38 : I 87 s.toNatClampNeg < 0 := by rw [q2, et]; exact (m1 t (by omega)).2
    refine pair_of (v := -12) (v' := -12) (I1 := I) (I2 := I) (J1 := J) (J2 := J) ?_ ?_ rfl h
    · refine specF_of (L := [some (.ref 0), some (.int s), some (.int o), none]) (by decide) (Nat.le_of_ble_eq_true rfl) rfl ?_
      refine iX11_taken_0 (iX11_taken_1 (iX11_taken_2 (s_X11_isShelf _) (iX11_taken_5 (fun h5 => absurd h5 (n5)) (fun h5 => ?_))))
      refine iX11_taken_8 (iX11_taken_9 (s_X3_isKind _) (iX11_taken_12 (fun h12 => ?_) (fun h12 => absurd (n12) (by first | exact h12 | exact fun q => q h12))))
      refine iX11_taken_17 (iX11_taken_18 (iX11_taken_21 (iX11_taken_22 hvs (shelf_at hk).1 (iX11_taken_23 (hx).1 (s_X9_isEmpty hx) (iX11_taken_26 (fun h26 => ?_) (fun h26 => absurd (e26) (by first | exact h26 | exact fun q => q h26)))))))
      refine iX11_taken_32 (iX11_taken_33 (iX11_taken_36 (iX11_taken_37 (iX11_taken_40 (iX11_taken_41 hvs (shelf_at hk).1 (iX11_taken_42 hx.1 (sB _) (iX11_taken_45 (sK _) (iX11_taken_48 (iX11_taken_49 (iX11_taken_50 (iX11_taken_51 (s_X3_isUnder _ _) (iX11_taken_54 (fun h54 => ?_) (fun h54 => absurd (under_neg) (by first | exact h54 | exact fun q => q h54))))))))))))))
      refine iX11_taken_61 (iX11_taken_63 ?_)
      first | exact ⟨rfl, rfl, rfl, rfl⟩ | (exfalso; (try simp only [f_in] at *); grind)
    · refine specF_of (L := [some (.ref 57), some (.int s), some (.int o)]) (by decide) (Nat.le_of_ble_eq_true rfl) rfl ?_
      refine iX12_taken_0 (iX12_taken_1 (s_X12_isShelf _) (iX12_taken_4 (fun h4 => absurd h4 (n5)) (fun h4 => ?_)))
      refine iX12_taken_7 (iX12_taken_8 (iX12_taken_9 (iX12_taken_11 (s_X12_in _ _ _) (iX12_taken_14 (fun h14 => ?_) (fun h14 => absurd (n12) (by first | exact h14 | exact fun q => q h14))))))
      refine iX12_taken_19 (iX12_taken_20 (iX12_taken_23 (iX12_taken_24 hvs (iX12_taken_25 (iX12_taken_26 (fun h26 => ?_) (fun h26 => absurd (m26) (by first | exact h26 | exact fun q => q h26)))))))
      refine iX12_taken_32 (iX12_taken_33 (iX12_taken_36 (iX12_taken_37 hvs (iX12_taken_38 (fun h38 => ?_) (fun h38 => absurd (m38) (by first | exact h38 | exact fun q => q h38))))))
      refine iX12_taken_73 (iX12_taken_75 ?_)
      first | exact ⟨rfl, rfl, rfl, rfl⟩ | (exfalso; (try simp only [f_in] at *); grind)
