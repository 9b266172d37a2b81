/-! ===== image, back ===== -/
theorem xcpG_s {α : Type} {J : Nat → Nat → α} {k0 k1 i : Nat} (h : ¬ k0 = k1) : xu (xcp J k0 k1 0 0 i) k1 i (xcp J k0 k1 0 0 i k0 i) = xcp J k0 k1 0 0 (i + 1) := by
  funext a b
  by_cases ha : a = k1
  · subst ha
    simp only [xu, xcp, h, if_false, true_and, if_true]
    by_cases hb : b = i
    · subst hb
      rw [if_pos rfl, if_pos ⟨by omega, by omega⟩, show 0 + (b - 0) = b by omega]
    · rw [if_neg hb]
      by_cases hc : 0 ≤ b ∧ b < 0 + i
      · rw [if_pos hc, if_pos ⟨hc.1, by omega⟩]
      · rw [if_neg hc, if_neg (by omega)]
  · simp only [xu, xcp, ha, false_and, if_false]
theorem xcpG_0 {α : Type} {J : Nat → Nat → α} {k0 k1 sp dp : Nat} : xcp J k0 k1 sp dp 0 = J := by
  funext a b
  simp only [xcp]
  by_cases ha : a = k1
  · subst ha
    rw [if_pos rfl, if_neg (by omega)]
  · rw [if_neg ha]
def pic (I : xI) (k : Nat) : xI := fun a b => if a = 40 ∧ b < k then I (13 + b) 0 else I a b
def layb (I : xI) (k : Nat) : xI := fun a b => if 13 ≤ a ∧ a < 13 + k ∧ b = 0 then I 40 (a - 13) else I a b
section
variable {I : xI} {J : xJ}
theorem s_X4_picture (hB : I 1 2 ≤ 10) (hS : I 1 3 ≤ 6) : SpecF 3 M_X4_picture [.ref 37] xG1 I J none (xu (xcp (pic I 4) 38 39 0 0 6) 37 4 1) J := by
  refine specF_of (L := [some (.ref 37), none]) (by decide) (Nat.le_of_ble_eq_true rfl) rfl ?_
  have key : ∀ n i : Nat, i + n = 4 → WP 3 (1000000, 0, 0) none M_X4_picture (fun r2 g2 I2 J2 => r2 = none ∧ g2 = xG1 ∧ I2 = xu (xcp (pic I 4) 38 39 0 0 6) 37 4 1 ∧ J2 = J) 2 [some (.ref 37), some (.int (nI i))] [] xG1 (pic I i) J := by
    intro n
    induction n with
    | zero =>
      intro i hi
      obtain rfl : i = 4 := by omega
      refine iX4_picture_2 (iX4_picture_3 (iX4_picture_4 (iX4_picture_7 (iX4_picture_8 (fun h8 => ?_) (fun h8 => absurd (Int32.le_refl _) (by first | exact h8 | exact fun q => q h8))))))
      refine iX4_picture_34 (iX4_picture_35 (iX4_picture_38 (iX4_picture_39 (iX4_picture_40 (iX4_picture_43 (iX4_picture_44 (iX4_picture_46 (by decide) (by decide) (by decide) (by decide) (by decide) (iX4_picture_49 (iX4_picture_50 (iX4_picture_51 (iX4_picture_54 ?_)))))))))))
      exact ⟨rfl, rfl, rfl, rfl⟩
    | succ n ih =>
      intro i hi
      have e6 : nI (6 + i) = 6 + nI i := (nI_add 6 i).symm
      have ev : pic I i (13 + i) 0 = I (13 + i) 0 := by simp only [pic]; rw [if_neg (by omega)]
      have es : xu (pic I i) 40 i (I (13 + i) 0) = pic I (i + 1) := by funext a b; simp only [xu, pic]; grind
      have sp := s_its (I := pic I i) (J := J) (6 + i) (13 + i) e6 (by omega) (by omega) (by omega) hB hS
      rw [ev] at sp
      refine iX4_picture_2 (iX4_picture_3 (iX4_picture_4 (iX4_picture_7 (iX4_picture_8 (fun h8 => absurd h8 (nI_ge (b := 4) (a := i) (by omega) (by omega))) (fun h8 => ?_)))))
      refine iX4_picture_11 (iX4_picture_12 (iX4_picture_15 (iX4_picture_16 (iX4_picture_17 (iX4_picture_20 (iX4_picture_22 (iX4_picture_23 (iX4_picture_24 sp (iX4_picture_27 (vp_in_nI (by omega) (by omega)) (iX4_picture_28 (iX4_picture_31 ?_)))))))))))
      rw [nI_clamp (by omega), es]
      have e1 : nI i + (1) = nI (i + 1) := nI_1 _
      rw [e1]
      exact ih (i + 1) (by omega)
  refine iX4_picture_0 (iX4_picture_1 ?_)
  have e0 : pic I 0 = I := by funext a b; simp [pic]
  have := key 4 0 (by omega)
  rw [e0] at this
  exact this
theorem s_X4_layBack (hB : I 1 2 ≤ 10) (hS : I 1 3 ≤ 6) (hp : ¬ I 37 4 = 0) : SpecF 3 M_X4_layBack [.ref 37] xG1 I J (some (.int 1)) (xcp (layb I 4) 39 38 0 0 6) J := by
  refine specF_of (L := [some (.ref 37), none]) (by decide) (Nat.le_of_ble_eq_true rfl) rfl ?_
  have key : ∀ n i : Nat, i + n = 4 → WP 3 (1000000, 0, 0) none M_X4_layBack (fun r2 g2 I2 J2 => r2 = some (.int 1) ∧ g2 = xG1 ∧ I2 = xcp (layb I 4) 39 38 0 0 6 ∧ J2 = J) 11 [some (.ref 37), some (.int (nI i))] [] xG1 (layb I i) J := by
    intro n
    induction n with
    | zero =>
      intro i hi
      obtain rfl : i = 4 := by omega
      refine iX4_layBack_11 (iX4_layBack_12 (iX4_layBack_13 (iX4_layBack_16 (iX4_layBack_17 (fun h17 => ?_) (fun h17 => absurd (Int32.le_refl _) (by first | exact h17 | exact fun q => q h17))))))
      refine iX4_layBack_44 (iX4_layBack_45 (iX4_layBack_48 (iX4_layBack_49 (iX4_layBack_50 (iX4_layBack_53 (iX4_layBack_54 (iX4_layBack_56 (by decide) (by decide) (by decide) (by decide) (by decide) (iX4_layBack_59 (iX4_layBack_60 ?_)))))))))
      exact ⟨rfl, rfl, rfl, rfl⟩
    | succ n ih =>
      intro i hi
      have e6 : nI (6 + i) = 6 + nI i := (nI_add 6 i).symm
      have ev : layb I i 40 (nI i).toNatClampNeg = I 40 i := by simp only [layb]; rw [nI_clamp (by omega), if_neg (by omega)]
      have es : xu (layb I i) (13 + i) 0 (I 40 i) = layb I (i + 1) := by
        funext a b
        simp only [xu, layb]
        by_cases q : a = 13 + i
        · subst q
          by_cases qb : b = 0
          · subst qb; rw [if_pos ⟨rfl, rfl⟩, if_pos (by omega)]; congr 1; omega
          · rw [if_neg (by omega), if_neg (by omega), if_neg (by omega)]
        · rw [if_neg (by omega)]
          by_cases qb : 13 ≤ a ∧ a < 13 + i ∧ b = 0
          · rw [if_pos qb, if_pos (by omega)]
          · rw [if_neg qb, if_neg (by omega)]
      have sp := s_setInf (I := layb I i) (J := J) (6 + i) (13 + i) (I 40 i) e6 (by omega) (by omega) (by omega) hB hS
      rw [es] at sp
      refine iX4_layBack_11 (iX4_layBack_12 (iX4_layBack_13 (iX4_layBack_16 (iX4_layBack_17 (fun h17 => absurd h17 (nI_ge (b := 4) (a := i) (by omega) (by omega))) (fun h17 => ?_)))))
      refine iX4_layBack_20 (iX4_layBack_21 (iX4_layBack_24 (iX4_layBack_25 (iX4_layBack_27 (iX4_layBack_28 (iX4_layBack_29 (iX4_layBack_30 (iX4_layBack_33 (iX4_layBack_34 (vp_in_nI (by omega) (by omega)) ?_)))))))))
      rw [ev]
      refine iX4_layBack_35 sp (iX4_layBack_38 (iX4_layBack_41 ?_))
      have e1 : nI i + (1) = nI (i + 1) := nI_1 _
      rw [e1]
      exact ih (i + 1) (by omega)
  have e0 : layb I 0 = I := by funext a b; simp only [layb]; rw [if_neg (by omega)]
  have := key 4 0 (by omega)
  rw [e0] at this
  refine iX4_layBack_0 (iX4_layBack_1 (iX4_layBack_4 (fun h4 => ?_) (fun h4 => absurd (hp) (by first | exact h4 | exact fun q => q h4))))
  refine iX4_layBack_9 (iX4_layBack_10 ?_)
  exact this
theorem s_X4_layBack_0 (hp : I 37 4 = 0) : SpecF 3 M_X4_layBack [.ref 37] xG1 I J (some (.int 0)) I J := by
  refine specF_of (L := [some (.ref 37), none]) (by decide) (Nat.le_of_ble_eq_true rfl) rfl ?_
  refine iX4_layBack_0 (iX4_layBack_1 (iX4_layBack_4 (fun h4 => absurd h4 (fun q => q hp)) (fun h4 => ?_)))
  refine iX4_layBack_7 (iX4_layBack_8 ?_)
  exact ⟨rfl, rfl, rfl, rfl⟩
theorem img_loop1 {d : Nat} {Q : xP} (kk : WP d (1000000, 0, 0) none M_X12_image Q 30 [some (.ref 57), some (.int (nI 4))] [] xG1 (xcp I 64 83 0 0 4) J) : ∀ n i : Nat, i + n = 4 → WP d (1000000, 0, 0) none M_X12_image Q 7 [some (.ref 57), some (.int (nI i))] [] xG1 (xcp I 64 83 0 0 i) J := by
  intro n
  induction n with
  | zero =>
    intro i hi
    obtain rfl : i = 4 := by omega
    refine iX12_image_7 (iX12_image_8 (iX12_image_9 (fun h9 => ?_) (fun h9 => absurd (Int32.le_refl _) (by first | exact h9 | exact fun q => q h9))))
    exact kk
  | succ n ih =>
    intro i hi
    refine iX12_image_7 (iX12_image_8 (iX12_image_9 (fun h9 => absurd h9 (nI_ge (b := 4) (a := i) (by omega) (by omega))) (fun h9 => ?_)))
    refine iX12_image_12 (iX12_image_13 (iX12_image_16 (iX12_image_17 (iX12_image_18 (iX12_image_21 (iX12_image_22 (vp_in_nI (by omega) (by omega)) (iX12_image_23 (vp_in_nI (by omega) (by omega)) (iX12_image_24 (iX12_image_27 ?_)))))))))
    rw [nI_clamp (by omega), xcpG_s (by decide)]
    have e1 : nI i + (1) = nI (i + 1) := nI_1 _
    rw [e1]
    exact ih (i + 1) (by omega)
theorem img_loop2 {d : Nat} {Q : xP} (kk : WP d (1000000, 0, 0) none M_X12_image Q 56 [some (.ref 57), some (.int (nI 6))] [] xG1 (xcp I 82 84 0 0 6) J) : ∀ n i : Nat, i + n = 6 → WP d (1000000, 0, 0) none M_X12_image Q 32 [some (.ref 57), some (.int (nI i))] [] xG1 (xcp I 82 84 0 0 i) J := by
  intro n
  induction n with
  | zero =>
    intro i hi
    obtain rfl : i = 6 := by omega
    refine iX12_image_32 (iX12_image_33 (iX12_image_35 (fun h35 => ?_) (fun h35 => absurd (Int32.le_refl _) (by first | exact h35 | exact fun q => q h35))))
    exact kk
  | succ n ih =>
    intro i hi
    refine iX12_image_32 (iX12_image_33 (iX12_image_35 (fun h35 => absurd h35 (nI_ge (b := 6) (a := i) (by omega) (by omega))) (fun h35 => ?_)))
    refine iX12_image_38 (iX12_image_39 (iX12_image_42 (iX12_image_43 (iX12_image_44 (iX12_image_47 (iX12_image_48 (vp_in_nI (by omega) (by omega)) (iX12_image_49 (vp_in_nI (by omega) (by omega)) (iX12_image_50 (iX12_image_53 ?_)))))))))
    rw [nI_clamp (by omega), xcpG_s (by decide)]
    have e1 : nI i + (1) = nI (i + 1) := nI_1 _
    rw [e1]
    exact ih (i + 1) (by omega)
theorem back_loop1 {d : Nat} {Q : xP} (kk : WP d (1000000, 0, 0) none M_X12_back Q 35 [some (.ref 57), some (.int (nI 4))] [] xG1 (xcp I 83 64 0 0 4) J) : ∀ n i : Nat, i + n = 4 → WP d (1000000, 0, 0) none M_X12_back Q 12 [some (.ref 57), some (.int (nI i))] [] xG1 (xcp I 83 64 0 0 i) J := by
  intro n
  induction n with
  | zero =>
    intro i hi
    obtain rfl : i = 4 := by omega
    refine iX12_back_12 (iX12_back_13 (iX12_back_14 (fun h14 => ?_) (fun h14 => absurd (Int32.le_refl _) (by first | exact h14 | exact fun q => q h14))))
    exact kk
  | succ n ih =>
    intro i hi
    refine iX12_back_12 (iX12_back_13 (iX12_back_14 (fun h14 => absurd h14 (nI_ge (b := 4) (a := i) (by omega) (by omega))) (fun h14 => ?_)))
    refine iX12_back_17 (iX12_back_18 (iX12_back_21 (iX12_back_22 (iX12_back_23 (iX12_back_26 (iX12_back_27 (vp_in_nI (by omega) (by omega)) (iX12_back_28 (vp_in_nI (by omega) (by omega)) (iX12_back_29 (iX12_back_32 ?_)))))))))
    rw [nI_clamp (by omega), xcpG_s (by decide)]
    have e1 : nI i + (1) = nI (i + 1) := nI_1 _
    rw [e1]
    exact ih (i + 1) (by omega)
theorem back_loop2 {d : Nat} {Q : xP} (kk : WP d (1000000, 0, 0) none M_X12_back Q 61 [some (.ref 57), some (.int (nI 6))] [] xG1 (xcp I 84 82 0 0 6) J) : ∀ n i : Nat, i + n = 6 → WP d (1000000, 0, 0) none M_X12_back Q 37 [some (.ref 57), some (.int (nI i))] [] xG1 (xcp I 84 82 0 0 i) J := by
  intro n
  induction n with
  | zero =>
    intro i hi
    obtain rfl : i = 6 := by omega
    refine iX12_back_37 (iX12_back_38 (iX12_back_40 (fun h40 => ?_) (fun h40 => absurd (Int32.le_refl _) (by first | exact h40 | exact fun q => q h40))))
    exact kk
  | succ n ih =>
    intro i hi
    refine iX12_back_37 (iX12_back_38 (iX12_back_40 (fun h40 => absurd h40 (nI_ge (b := 6) (a := i) (by omega) (by omega))) (fun h40 => ?_)))
    refine iX12_back_43 (iX12_back_44 (iX12_back_47 (iX12_back_48 (iX12_back_49 (iX12_back_52 (iX12_back_53 (vp_in_nI (by omega) (by omega)) (iX12_back_54 (vp_in_nI (by omega) (by omega)) (iX12_back_55 (iX12_back_58 ?_)))))))))
    rw [nI_clamp (by omega), xcpG_s (by decide)]
    have e1 : nI i + (1) = nI (i + 1) := nI_1 _
    rw [e1]
    exact ih (i + 1) (by omega)
end
def imc (a b : Nat) : Bool := [39, 40, 83, 84].contains a || (a == 37 && b == 4) || (a == 57 && b == 42)
def bkc (a _b : Nat) : Bool := [13, 14, 15, 16, 38, 64, 82].contains a
theorem inv_img_frame {I F : xI} {J : xJ} (h : Inv I J) (f : ∀ a b, imc a b = false → F a b = I a b) (hi : ivImg F) : Inv F J := by
  obtain ⟨hh, hb, hse, hin, hch, hta, hle, him, hcl, hsh, hlw⟩ := h
  have row : ∀ a, (∀ b, imc a b = false) → F a = I a := fun a q => funext fun b => f a b (q b)
  have p1 := f 57 1 rfl; have p2 := f 57 6 rfl; have p3 := f 57 10 rfl; have p4 := f 57 11 rfl; have p5 := f 57 17 rfl; have p6 := f 57 29 rfl; have p8 := f 57 45 rfl; have p9 := f 57 47 rfl
  refine ⟨?_, ?_, ?_, ?_, ?_, ?_, ?_, hi, ?_, ?_, ?_⟩
  · unfold ivHouse at hh ⊢; rw [p1, p2, row 1 (fun _ => rfl)]; exact hh
  · unfold ivBills at hb ⊢; rw [row 58 (fun _ => rfl), row 59 (fun _ => rfl), row 60 (fun _ => rfl), row 61 (fun _ => rfl), row 7 (fun _ => rfl), row 8 (fun _ => rfl), row 9 (fun _ => rfl), row 10 (fun _ => rfl)]; exact hb
  · unfold ivSens at hse ⊢; rw [row 62 (fun _ => rfl), row 63 (fun _ => rfl), row 11 (fun _ => rfl), row 12 (fun _ => rfl)]; exact hse
  · unfold ivInf at hin ⊢; rw [row 64 (fun _ => rfl), row 13 (fun _ => rfl), row 14 (fun _ => rfl), row 15 (fun _ => rfl), row 16 (fun _ => rfl)]; exact hin
  · refine ivChg_frame hch ⟨row 20 (fun _ => rfl), row 21 (fun _ => rfl), row 22 (fun _ => rfl), row 23 (fun _ => rfl), row 24 (fun _ => rfl), row 65 (fun _ => rfl), row 66 (fun _ => rfl), row 67 (fun _ => rfl), row 68 (fun _ => rfl)⟩ p3 p4 ?_ ?_ <;> rw [row 1 (fun _ => rfl)] <;> exact Int32.le_refl _
  · unfold ivTape at hta ⊢; rw [p5, row 17 (fun _ => rfl), row 18 (fun _ => rfl), row 69 (fun _ => rfl)]; exact hta
  · unfold ivLed at hle ⊢; rw [row 82 (fun _ => rfl), row 38 (fun _ => rfl)]; exact hle
  · unfold ivCl at hcl ⊢; rw [p8, p9, row 41 (fun _ => rfl), row 85 (fun _ => rfl), row 86 (fun _ => rfl), row 42 (fun _ => rfl), row 43 (fun _ => rfl)]; exact hcl
  · refine ivSh_frame hsh (fun s hs => ?_) (row 87 (fun _ => rfl)) (row 88 (fun _ => rfl)) (by rw [row 41 (fun _ => rfl)]; exact Int32.le_refl _) (fun _ _ => rfl) rfl
    have : s = 0 ∨ s = 1 ∨ s = 2 ∨ s = 3 ∨ s = 4 ∨ s = 5 := by omega
    rcases this with rfl | rfl | rfl | rfl | rfl | rfl <;> exact row _ (fun _ => rfl)
  · exact ivLaw_frame hlw ⟨f 2 3 rfl, row 3 (fun _ => rfl), p6, row 70 (fun _ => rfl), row 71 (fun _ => rfl), f 72 0 rfl, row 73 (fun _ => rfl), row 74 (fun _ => rfl)⟩
theorem inv_bk_frame {I F : xI} {J : xJ} (h : Inv I J) (f : ∀ a b, bkc a b = false → F a b = I a b) (hn : ivInf F) (hl : ivLed F) : Inv F J := by
  obtain ⟨hh, hb, hse, hin, hch, hta, hle, him, hcl, hsh, hlw⟩ := h
  have row : ∀ a, (∀ b, bkc a b = false) → F a = I a := fun a q => funext fun b => f a b (q b)
  have p57 := row 57 (fun _ => rfl)
  refine ⟨?_, ?_, ?_, hn, ?_, ?_, hl, ?_, ?_, ?_, ?_⟩
  · unfold ivHouse at hh ⊢; rw [p57, row 1 (fun _ => rfl)]; exact hh
  · unfold ivBills at hb ⊢; rw [row 58 (fun _ => rfl), row 59 (fun _ => rfl), row 60 (fun _ => rfl), row 61 (fun _ => rfl), row 7 (fun _ => rfl), row 8 (fun _ => rfl), row 9 (fun _ => rfl), row 10 (fun _ => rfl)]; exact hb
  · unfold ivSens at hse ⊢; rw [row 62 (fun _ => rfl), row 63 (fun _ => rfl), row 11 (fun _ => rfl), row 12 (fun _ => rfl)]; exact hse
  · refine ivChg_frame hch ⟨row 20 (fun _ => rfl), row 21 (fun _ => rfl), row 22 (fun _ => rfl), row 23 (fun _ => rfl), row 24 (fun _ => rfl), row 65 (fun _ => rfl), row 66 (fun _ => rfl), row 67 (fun _ => rfl), row 68 (fun _ => rfl)⟩ (f 57 10 rfl) (f 57 11 rfl) ?_ ?_ <;> rw [row 1 (fun _ => rfl)] <;> exact Int32.le_refl _
  · unfold ivTape at hta ⊢; rw [p57, row 17 (fun _ => rfl), row 18 (fun _ => rfl), row 69 (fun _ => rfl)]; exact hta
  · unfold ivImg at him ⊢; rw [p57, row 37 (fun _ => rfl), row 83 (fun _ => rfl), row 84 (fun _ => rfl), row 39 (fun _ => rfl), row 40 (fun _ => rfl)]; exact him
  · unfold ivCl at hcl ⊢; rw [p57, row 41 (fun _ => rfl), row 85 (fun _ => rfl), row 86 (fun _ => rfl), row 42 (fun _ => rfl), row 43 (fun _ => rfl)]; exact hcl
  · refine ivSh_frame hsh (fun s hs => ?_) (row 87 (fun _ => rfl)) (row 88 (fun _ => rfl)) (by rw [row 41 (fun _ => rfl)]; exact Int32.le_refl _) (fun _ _ => rfl) rfl
    have : s = 0 ∨ s = 1 ∨ s = 2 ∨ s = 3 ∨ s = 4 ∨ s = 5 := by omega
    rcases this with rfl | rfl | rfl | rfl | rfl | rfl <;> exact row _ (fun _ => rfl)
  · exact ivLaw_frame hlw ⟨f 2 3 rfl, row 3 (fun _ => rfl), f 57 29 rfl, row 70 (fun _ => rfl), row 71 (fun _ => rfl), f 72 0 rfl, row 73 (fun _ => rfl), row 74 (fun _ => rfl)⟩
theorem pp_image : PP_image Inv := by
  intro I J h
  obtain ⟨hh, hb, hse, hin, hch, hta, hle, him, hcl, hsh, hlw⟩ := id h
  obtain ⟨a1, a2, a3, hB, a5, hS⟩ := id hh
  have e0 := hle 0 (by decide)
  let C := xu (xcp (pic I 4) 38 39 0 0 6) 37 4 1
  let F := xcp (xcp (xu C 57 42 1) 64 83 0 0 4) 82 84 0 0 6
  have eF : F 82 0 = I 38 0 := e0
  refine pair_of (v := I 38 0) (v' := I 38 0) (I1 := C) (I2 := F) (J1 := J) (J2 := J) ?_ ?_ rfl ?_
  · refine specF_of (L := [some (.ref 0)]) (by decide) (Nat.le_of_ble_eq_true rfl) rfl ?_
    refine iX11_image_0 (iX11_image_1 (iX11_image_4 (s_X4_picture hB hS) (iX11_image_7 (iX11_image_8 (iX11_image_11 (iX11_image_12 (s_X4_done _) (iX11_image_15 ?_)))))))
    exact ⟨rfl, rfl, rfl, rfl⟩
  · refine specF_of (L := [some (.ref 57), none]) (by decide) (Nat.le_of_ble_eq_true rfl) rfl ?_
    refine iX12_image_0 (iX12_image_1 (iX12_image_2 (iX12_image_5 (iX12_image_6 ?_))))
    have l1 := fun Q kk => img_loop1 (d := 1000) (I := xu C 57 42 1) (J := J) (Q := Q) kk 4 0 (by omega)
    rw [xcpG_0] at l1
    refine l1 _ ?_
    refine iX12_image_30 (iX12_image_31 ?_)
    have l2 := fun Q kk => img_loop2 (d := 1000) (I := xcp (xu C 57 42 1) 64 83 0 0 4) (J := J) (Q := Q) kk 6 0 (by omega)
    rw [xcpG_0] at l2
    refine l2 _ ?_
    refine iX12_image_56 (iX12_image_57 (iX12_image_60 (iX12_image_61 (vin 6 (by decide) (by decide) (by decide)) (iX12_image_62 ?_))))
    refine ⟨?_, rfl, rfl, rfl⟩
    rw [← eF]
    rfl
  refine inv_img_frame h (fun a b hab => ?_) ?_
  · simp only [imc, List.contains_cons, List.contains_nil, Bool.or_eq_false_iff, beq_eq_false_iff_ne, Bool.and_eq_false_iff] at hab
    simp only [F, C, xcp, xu, pic]
    grind
  · obtain ⟨b1, b2, b3, b4, b5, b6, b7, b8, b9, b10⟩ := id hin
    refine ⟨rfl, Or.inr rfl, fun k hk => ?_, fun j hj => ?_, ?_, ?_, ?_, ?_, ?_, ?_⟩
    · have : k = 0 ∨ k = 1 ∨ k = 2 ∨ k = 3 := by omega
      rcases this with rfl | rfl | rfl | rfl
      · exact b1
      · exact b2
      · exact b3
      · exact b4
    · have := hle j hj
      simp only [F, C, xcp, xu, pic]
      grind
    · exact b5
    · exact b6
    · exact b7
    · exact b8
    · exact b9
    · exact b10
theorem pp_back : PP_back Inv := by
  intro I J h
  obtain ⟨hh, hb, hse, hin, hch, hta, hle, him, hcl, hsh, hlw⟩ := id h
  obtain ⟨a1, a2, a3, hB, a5, hS⟩ := id hh
  obtain ⟨i1, i2, i3, i4, i5⟩ := id him
  by_cases h0 : I 37 4 = 0
  · have m4 : ¬ ¬ I 57 42 = 0 := by rw [i1]; exact fun q => q h0
    refine pair_of (v := -5) (v' := -5) (I1 := I) (I2 := I) (J1 := J) (J2 := J) ?_ ?_ rfl h
    · refine specF_of (L := [some (.ref 0)]) (by decide) (Nat.le_of_ble_eq_true rfl) rfl ?_
      refine iX11_back_0 (iX11_back_1 (iX11_back_4 (s_X4_layBack_0 h0) (iX11_back_7 (fun h7 => ?_) (fun h7 => absurd (rfl) (by first | exact h7 | exact fun q => q h7)))))
      refine iX11_back_21 (iX11_back_23 ?_)
      first | exact ⟨rfl, rfl, rfl, rfl⟩ | (exfalso; (try simp only [f_in] at *); grind)
    · refine specF_of (L := [some (.ref 57), none]) (by decide) (Nat.le_of_ble_eq_true rfl) rfl ?_
      refine iX12_back_0 (iX12_back_1 (iX12_back_4 (fun h4 => absurd h4 (m4)) (fun h4 => ?_)))
      refine iX12_back_7 (iX12_back_9 ?_)
      first | exact ⟨rfl, rfl, rfl, rfl⟩ | (exfalso; (try simp only [f_in] at *); grind)
  have m4 : ¬ I 57 42 = 0 := by rw [i1]; exact h0
  have e0 := i4 0 (by decide)
  let C := xcp (layb I 4) 39 38 0 0 6
  let F := xcp (xcp C 83 64 0 0 4) 84 82 0 0 6
  have eF : F 82 0 = I 39 0 := e0
  refine pair_of (v := I 39 0) (v' := I 39 0) (I1 := C) (I2 := F) (J1 := J) (J2 := J) ?_ ?_ rfl ?_
  · refine specF_of (L := [some (.ref 0)]) (by decide) (Nat.le_of_ble_eq_true rfl) rfl ?_
    refine iX11_back_0 (iX11_back_1 (iX11_back_4 (s_X4_layBack hB hS h0) (iX11_back_7 (fun h7 => absurd h7 (by decide)) (fun h7 => ?_))))
    refine iX11_back_10 (iX11_back_11 (iX11_back_14 (iX11_back_15 (s_X4_done _) (iX11_back_18 (iX11_back_23 ?_)))))
    exact ⟨rfl, rfl, rfl, rfl⟩
  · refine specF_of (L := [some (.ref 57), none]) (by decide) (Nat.le_of_ble_eq_true rfl) rfl ?_
    refine iX12_back_0 (iX12_back_1 (iX12_back_4 (fun h4 => ?_) (fun h4 => absurd (m4) (by first | exact h4 | exact fun q => q h4))))
    refine iX12_back_10 (iX12_back_11 ?_)
    have l1 := fun Q kk => back_loop1 (d := 1000) (I := C) (J := J) (Q := Q) kk 4 0 (by omega)
    rw [xcpG_0] at l1
    refine l1 _ ?_
    refine iX12_back_35 (iX12_back_36 ?_)
    have l2 := fun Q kk => back_loop2 (d := 1000) (I := xcp C 83 64 0 0 4) (J := J) (Q := Q) kk 6 0 (by omega)
    rw [xcpG_0] at l2
    refine l2 _ ?_
    refine iX12_back_61 (iX12_back_62 (iX12_back_65 (iX12_back_66 (vin 6 (by decide) (by decide) (by decide)) (iX12_back_67 ?_))))
    refine ⟨?_, rfl, rfl, rfl⟩
    rw [← eF]
    rfl
  refine inv_bk_frame h (fun a b hab => ?_) ?_ (fun j hj => ?_)
  · simp only [bkc, List.contains_cons, List.contains_nil, Bool.or_eq_false_iff, beq_eq_false_iff_ne] at hab
    simp only [F, C, xcp, layb]
    grind
  · exact ⟨i3 0 (by decide), i3 1 (by decide), i3 2 (by decide), i3 3 (by decide), i5.1, i5.2.1, i5.2.2.1, i5.2.2.2.1, i5.2.2.2.2.1, i5.2.2.2.2.2⟩
  · have := i4 j hj
    simp only [F, C, xcp, layb]
    grind
