/-! ===== mend: a change is told and laid ===== -/
def shC (I : xI) (lo k : Nat) : xI := fun a b => if lo ≤ a ∧ a < lo + 4 ∧ b < k then I a (b + 1) else I a b
def g_rec (I : xI) (m : Nat) (n w o v c : Int32) : xI := xu (xu (xu (xu (xu (xu I 21 m n) 22 m w) 23 m o) 24 m v) 20 5 c) 20 6 c
def mg_rec (I : xI) (m : Nat) (n w o v c : Int32) : xI := xu (xu (xu (xu (xu I 65 m w) 66 m n) 67 m o) 68 m v) 57 10 c
def lg (a b : Nat) : Bool := [21, 22, 23, 24, 65, 66, 67, 68].contains a || (a == 20 && [5, 6].contains b) || (a == 57 && [10, 11].contains b)
theorem frl {I I' : xI} {c e : Nat} {v : Int32} (hs : lg c e = true) (h : ∀ a b, lg a b = false → I' a b = I a b) : ∀ a b, lg a b = false → xu I' c e v a b = I a b := by
  intro a b hab
  have := h a b hab
  simp only [xu]
  grind
theorem frn {I I' : xI} {c e : Nat} {v : Int32} (h : ∀ a b, lg a b = false → I' a b = I a b) : ∀ a b, lg a b = false → xu I' c e v a b = xu I c e v a b := by
  intro a b hab
  have := h a b hab
  simp only [xu]
  grind
theorem frs {I I' : xI} {lo k : Nat} (hs : ∀ a b, lo ≤ a → a < lo + 4 → lg a b = true) (h : ∀ a b, lg a b = false → I' a b = I a b) : ∀ a b, lg a b = false → shC I' lo k a b = I a b := by
  intro a b hab
  have := h a b hab
  have := hs a b
  simp only [shC]
  grind
theorem lg21 : ∀ a b, 21 ≤ a → a < 21 + 4 → lg a b = true := by
  intro a b h1 h2
  have : a = 21 ∨ a = 22 ∨ a = 23 ∨ a = 24 := by omega
  rcases this with rfl | rfl | rfl | rfl <;> rfl
theorem lg65 : ∀ a b, 65 ≤ a → a < 65 + 4 → lg a b = true := by
  intro a b h1 h2
  have : a = 65 ∨ a = 66 ∨ a = 67 ∨ a = 68 := by omega
  rcases this with rfl | rfl | rfl | rfl <;> rfl
theorem inv_log_frame {G F : xI} {J : xJ} (h : Inv G J) (f : ∀ a b, lg a b = false → F a b = G a b) (hc : ivChg F) : Inv F J := by
  obtain ⟨hh, hb, hse, hin, hch, hta, hle, him, hcl, hsh, hlw⟩ := h
  have row : ∀ a, (∀ b, lg a b = false) → F a = G a := fun a q => funext fun b => f a b (q b)
  have p1 := f 57 1 rfl; have p2 := f 57 6 rfl; have p5 := f 57 17 rfl; have p6 := f 57 29 rfl; have p7 := f 57 42 rfl; have p8 := f 57 45 rfl; have p9 := f 57 47 rfl
  have p10 := f 1 2 rfl; have p11 := f 1 3 rfl; have p12 := f 2 3 rfl; have p13 := f 17 2 rfl; have p16 := f 37 4 rfl; have p17 := f 41 2 rfl; have p18 := f 41 3 rfl; have p19 := f 72 0 rfl
  refine ⟨?_, ?_, ?_, ?_, hc, ?_, ?_, ?_, ?_, ?_, ?_⟩
  · unfold ivHouse at hh ⊢; rw [p1, p2, p10, p11]; exact hh
  · unfold ivBills at hb ⊢; rw [row 58 (fun _ => rfl), row 59 (fun _ => rfl), row 60 (fun _ => rfl), row 61 (fun _ => rfl), row 7 (fun _ => rfl), row 8 (fun _ => rfl), row 9 (fun _ => rfl), row 10 (fun _ => rfl)]; exact hb
  · unfold ivSens at hse ⊢; rw [row 62 (fun _ => rfl), row 63 (fun _ => rfl), row 11 (fun _ => rfl), row 12 (fun _ => rfl)]; exact hse
  · unfold ivInf at hin ⊢; rw [row 64 (fun _ => rfl), row 13 (fun _ => rfl), row 14 (fun _ => rfl), row 15 (fun _ => rfl), row 16 (fun _ => rfl)]; exact hin
  · unfold ivTape at hta ⊢; rw [p5, p13, row 18 (fun _ => rfl), row 69 (fun _ => rfl)]; exact hta
  · unfold ivLed at hle ⊢; rw [row 82 (fun _ => rfl), row 38 (fun _ => rfl)]; exact hle
  · unfold ivImg at him ⊢; rw [p7, p16, row 83 (fun _ => rfl), row 84 (fun _ => rfl), row 39 (fun _ => rfl), row 40 (fun _ => rfl)]; exact him
  · unfold ivCl at hcl ⊢; rw [p8, p9, p17, p18, row 85 (fun _ => rfl), row 86 (fun _ => rfl), row 42 (fun _ => rfl), row 43 (fun _ => rfl)]; exact hcl
  · refine ivSh_frame hsh (fun s hs => ?_) (row 87 (fun _ => rfl)) (row 88 (fun _ => rfl)) (by rw [p17]; exact Int32.le_refl _) (fun _ _ => rfl) rfl
    have : s = 0 ∨ s = 1 ∨ s = 2 ∨ s = 3 ∨ s = 4 ∨ s = 5 := by omega
    rcases this with rfl | rfl | rfl | rfl | rfl | rfl <;> exact row _ (fun _ => rfl)
  · exact ivLaw_frame hlw ⟨p12, row 3 (fun _ => rfl), p6, row 70 (fun _ => rfl), row 71 (fun _ => rfl), p19, row 73 (fun _ => rfl), row 74 (fun _ => rfl)⟩
section
variable {I : xI} {J : xJ}
theorem f_get_1 {n w : Int32} (h : f_has I n w = 1) : f_get I n w = I (7 + w.toNatClampNeg) n.toNatClampNeg := by unfold f_get; rw [h, if_neg (by decide)]
theorem s_get1 {n w : Int32} (h : f_has I n w = 1) (hB : I 1 2 ≤ 10) (hS : I 1 3 ≤ 6) : SpecF 1 M_X5_get [.ref 1, .int n, .int w] xG1 I J (some (.int (I (7 + w.toNatClampNeg) n.toNatClampNeg))) I J := by
  have := s_X5_get (J := J) n w hB hS
  rw [f_get_1 h] at this
  exact this
theorem s_set1 {n w v : Int32} (h : f_has I n w = 1) (hB : I 1 2 ≤ 10) (hS : I 1 3 ≤ 6) : SpecF 1 M_X5_set [.ref 1, .int n, .int w, .int v] xG1 I J none (xu I (7 + w.toNatClampNeg) n.toNatClampNeg v) J := by
  have := s_X5_set (J := J) n w v hB hS
  unfold g_set at this
  rw [h, if_neg (by decide)] at this
  exact this
theorem s_X2_forgetFirst : SpecF 1 M_X2_forgetFirst [.ref 20] xG1 I J none (shC (xu I 20 5 39) 21 39) J := by
  refine specF_of (L := [some (.ref 20)]) (by decide) (Nat.le_of_ble_eq_true rfl) rfl ?_
  refine iX2_forgetFirst_0 (iX2_forgetFirst_1 (iX2_forgetFirst_3 (iX2_forgetFirst_6 (iX2_forgetFirst_7 (iX2_forgetFirst_10 (iX2_forgetFirst_11 (iX2_forgetFirst_12 (iX2_forgetFirst_15 (iX2_forgetFirst_16 (iX2_forgetFirst_17 (iX2_forgetFirst_20 (by decide) (by decide) (by exact (by decide : ¬ (39 : Int32) < 0)) (by exact (by decide : (1 : Int32).toNatClampNeg + (39 : Int32).toNatClampNeg ≤ 40)) (by exact (by decide : (0 : Int32).toNatClampNeg + (39 : Int32).toNatClampNeg ≤ 40)) (iX2_forgetFirst_23 (iX2_forgetFirst_24 (iX2_forgetFirst_27 (iX2_forgetFirst_28 (iX2_forgetFirst_29 (iX2_forgetFirst_32 (iX2_forgetFirst_33 (iX2_forgetFirst_34 (iX2_forgetFirst_37 (by decide) (by decide) (by exact (by decide : ¬ (39 : Int32) < 0)) (by exact (by decide : (1 : Int32).toNatClampNeg + (39 : Int32).toNatClampNeg ≤ 40)) (by exact (by decide : (0 : Int32).toNatClampNeg + (39 : Int32).toNatClampNeg ≤ 40)) (iX2_forgetFirst_40 (iX2_forgetFirst_41 (iX2_forgetFirst_44 (iX2_forgetFirst_45 (iX2_forgetFirst_46 (iX2_forgetFirst_49 (iX2_forgetFirst_50 (iX2_forgetFirst_51 (iX2_forgetFirst_54 (by decide) (by decide) (by exact (by decide : ¬ (39 : Int32) < 0)) (by exact (by decide : (1 : Int32).toNatClampNeg + (39 : Int32).toNatClampNeg ≤ 40)) (by exact (by decide : (0 : Int32).toNatClampNeg + (39 : Int32).toNatClampNeg ≤ 40)) (iX2_forgetFirst_57 (iX2_forgetFirst_58 (iX2_forgetFirst_61 (iX2_forgetFirst_62 (iX2_forgetFirst_63 (iX2_forgetFirst_66 (iX2_forgetFirst_67 (iX2_forgetFirst_68 (iX2_forgetFirst_71 (by decide) (by decide) (by exact (by decide : ¬ (39 : Int32) < 0)) (by exact (by decide : (1 : Int32).toNatClampNeg + (39 : Int32).toNatClampNeg ≤ 40)) (by exact (by decide : (0 : Int32).toNatClampNeg + (39 : Int32).toNatClampNeg ≤ 40)) (iX2_forgetFirst_74 ?_)))))))))))))))))))))))))))))))))))))))
  refine ⟨rfl, rfl, ?_, rfl⟩
  show xcp (xcp (xcp (xcp (xu I 20 5 39) 21 21 1 0 39) 22 22 1 0 39) 23 23 1 0 39) 24 24 1 0 39 = shC (xu I 20 5 39) 21 39
  funext a b
  simp only [xcp, shC]
  grind
theorem make_tail {d : Nat} {n w v : Int32} (hd : 2 ≤ d) (hhas : f_has I n w = 1) (hB : I 1 2 ≤ 10) (hS : I 1 3 ≤ 6) (h0 : ¬ I 20 5 < 0) (h1 : I 20 5 < 40) : WP d (1000000, 0, 0) none M_X2_make (fun r2 g2 I2 J2 => r2 = none ∧ g2 = xG1 ∧ I2 = xu (g_rec I (I 20 5).toNatClampNeg n w (I (7 + w.toNatClampNeg) n.toNatClampNeg) v (I 20 5 + 1)) (7 + w.toNatClampNeg) n.toNatClampNeg v ∧ J2 = J) 13 [some (.ref 20), some (.int n), some (.int w), some (.int v)] [] xG1 I J := by
  have hv : vp_in (I 20 5) 40 := vin 40 (by decide) h0 h1
  have e : (xu (xu I 21 (I 20 5).toNatClampNeg n) 22 (I 20 5).toNatClampNeg w) (7 + w.toNatClampNeg) n.toNatClampNeg = I (7 + w.toNatClampNeg) n.toNatClampNeg := by
    have := has_cases hhas hB hS
    have hw : w.toNatClampNeg < 10 := clamp_lt' (N := 10) (by decide) (by grind) (by grind)
    rw [xu_row (by omega), xu_row (by omega)]
  refine iX2_make_13 (iX2_make_14 (iX2_make_17 (iX2_make_18 (iX2_make_21 (iX2_make_22 hv (iX2_make_23 (iX2_make_24 (iX2_make_27 (iX2_make_28 (iX2_make_31 (iX2_make_32 hv (iX2_make_33 (iX2_make_34 (iX2_make_37 (iX2_make_38 (iX2_make_41 (iX2_make_42 (iX2_make_45 (iX2_make_46 (iX2_make_47 (s_get1 hhas hB hS) (hdd := hd) (iX2_make_50 hv (iX2_make_51 (iX2_make_52 (iX2_make_55 (iX2_make_56 (iX2_make_59 (iX2_make_60 hv (iX2_make_61 (iX2_make_62 (iX2_make_63 (iX2_make_66 (iX2_make_67 (iX2_make_68 (iX2_make_71 (iX2_make_72 (iX2_make_73 (iX2_make_76 (iX2_make_79 (iX2_make_80 (iX2_make_83 (iX2_make_84 (iX2_make_85 (iX2_make_86 (s_set1 hhas hB hS) (hdd := hd) (iX2_make_89 ?_))))))))))))))))))))))))))))))))))))))))))))
  refine ⟨rfl, rfl, ?_, rfl⟩
  rw [← e]
  rfl
theorem s_X2_make_ok {n w v : Int32} (hhas : f_has I n w = 1) (hB : I 1 2 ≤ 10) (hS : I 1 3 ≤ 6) (h0 : ¬ I 20 5 < 0) (h1 : I 20 5 < 40) : SpecF 2 M_X2_make [.ref 20, .int n, .int w, .int v] xG1 I J none (xu (g_rec I (I 20 5).toNatClampNeg n w (I (7 + w.toNatClampNeg) n.toNatClampNeg) v (I 20 5 + 1)) (7 + w.toNatClampNeg) n.toNatClampNeg v) J := by
  refine specF_of (L := [some (.ref 20), some (.int n), some (.int w), some (.int v)]) (by decide) (Nat.le_of_ble_eq_true rfl) rfl ?_
  refine iX2_make_0 (iX2_make_1 (iX2_make_4 (iX2_make_6 (fun h6 => ?_) (fun h6 => absurd (h1) (by first | exact h6 | exact fun q => q h6)))))
  exact make_tail (Nat.le_refl _) hhas hB hS h0 h1
theorem s_X2_make_full {n w v : Int32} (hhas : f_has I n w = 1) (hB : I 1 2 ≤ 10) (hS : I 1 3 ≤ 6) (h1 : I 20 5 = 40) : SpecF 2 M_X2_make [.ref 20, .int n, .int w, .int v] xG1 I J none (xu (g_rec (shC (xu I 20 5 39) 21 39) 39 n w (I (7 + w.toNatClampNeg) n.toNatClampNeg) v 40) (7 + w.toNatClampNeg) n.toNatClampNeg v) J := by
  refine specF_of (L := [some (.ref 20), some (.int n), some (.int w), some (.int v)]) (by decide) (Nat.le_of_ble_eq_true rfl) rfl ?_
  have n6 : ¬ I 20 5 < 40 := by rw [h1]; decide
  have e : shC (xu I 20 5 39) 21 39 (7 + w.toNatClampNeg) n.toNatClampNeg = I (7 + w.toNatClampNeg) n.toNatClampNeg := by
    have := has_cases hhas hB hS
    have hw : w.toNatClampNeg < 10 := clamp_lt' (N := 10) (by decide) (by grind) (by grind)
    simp only [shC]
    rw [if_neg (by omega), xu_row (by omega)]
  refine iX2_make_0 (iX2_make_1 (iX2_make_4 (iX2_make_6 (fun h6 => absurd h6 (n6)) (fun h6 => ?_))))
  refine iX2_make_9 (iX2_make_10 s_X2_forgetFirst ?_)
  have := make_tail (d := 2) (I := shC (xu I 20 5 39) 21 39) (J := J) (n := n) (w := w) (v := v) (Nat.le_refl _) hhas hB hS (by exact (by decide : ¬ (39 : Int32) < 0)) (by exact (by decide : (39 : Int32) < 40))
  rw [e] at this
  exact this
theorem chg_tail {d : Nat} {n w v o : Int32} (hhas : f_has I n w = 1) (hB : I 1 2 ≤ 10) (hS : I 1 3 ≤ 6) (h0 : ¬ I 57 10 < 0) (h1 : I 57 10 < 40) (hd : 1 ≤ d) {x : Option Value} (hx : x = none ∨ ∃ k : Int32, x = some (.int k)) : WP d (1000000, 0, 0) none M_X12_changes (fun r2 g2 I2 J2 => r2 = some (.int o) ∧ g2 = xG1 ∧ I2 = xu (mg_rec I (I 57 10).toNatClampNeg n w o v (I 57 10 + 1)) (mrow w) (mcol w n) v ∧ J2 = J) 121 [some (.ref 57), some (.int w), some (.int n), some (.int v), some (.int o), x] [] xG1 I J := by
  have hv : vp_in (I 57 10) 40 := vin 40 (by decide) h0 h1
  refine iX12_changes_121 (iX12_changes_122 (iX12_changes_125 (iX12_changes_126 (iX12_changes_129 (iX12_changes_130 hv (iX12_changes_131 (iX12_changes_132 (iX12_changes_135 (iX12_changes_136 (iX12_changes_139 (iX12_changes_140 hv (iX12_changes_141 (iX12_changes_142 (iX12_changes_145 (iX12_changes_146 (iX12_changes_149 (iX12_changes_151 hv (iX12_changes_152 (iX12_changes_153 (iX12_changes_156 (iX12_changes_157 (iX12_changes_160 (iX12_changes_161 hv (iX12_changes_162 (iX12_changes_163 (iX12_changes_164 (iX12_changes_167 (iX12_changes_168 (iX12_changes_169 (iX12_changes_172 (iX12_changes_173 (iX12_changes_174 (iX12_changes_175 (iX12_changes_176 (s_X12_lays _ _ _ hhas hB hS) (hdd := hd) (iX12_changes_179 (iX12_changes_181 ?_))))))))))))))))))))))))))))))))))))
  exact ⟨rfl, rfl, rfl, rfl⟩
theorem chg_step {i : Nat} : (xu (xu (xu (xu (shC I 65 i) 65 i (shC I 65 i 65 (i + 1))) 66 i (xu (shC I 65 i) 65 i (shC I 65 i 65 (i + 1)) 66 (i + 1))) 67 i (xu (xu (shC I 65 i) 65 i (shC I 65 i 65 (i + 1))) 66 i (xu (shC I 65 i) 65 i (shC I 65 i 65 (i + 1)) 66 (i + 1)) 67 (i + 1))) 68 i (xu (xu (xu (shC I 65 i) 65 i (shC I 65 i 65 (i + 1))) 66 i (xu (shC I 65 i) 65 i (shC I 65 i 65 (i + 1)) 66 (i + 1))) 67 i (xu (xu (shC I 65 i) 65 i (shC I 65 i 65 (i + 1))) 66 i (xu (shC I 65 i) 65 i (shC I 65 i 65 (i + 1)) 66 (i + 1)) 67 (i + 1)) 68 (i + 1))) = shC I 65 (i + 1) := by
  funext a b
  simp only [xu_row (show ¬ 66 = 65 by decide), xu_row (show ¬ 67 = 65 by decide), xu_row (show ¬ 67 = 66 by decide), xu_row (show ¬ 68 = 65 by decide), xu_row (show ¬ 68 = 66 by decide), xu_row (show ¬ 68 = 67 by decide)]
  simp only [xu, shC]
  grind
theorem chg_loop {d : Nat} {n w v o : Int32} {Q : xP} (kk : WP d (1000000, 0, 0) none M_X12_changes Q 111 [some (.ref 57), some (.int w), some (.int n), some (.int v), some (.int o), some (.int (nI 40))] [] xG1 (shC I 65 39) J) : ∀ m i : Nat, i + m = 39 → WP d (1000000, 0, 0) none M_X12_changes Q 34 [some (.ref 57), some (.int w), some (.int n), some (.int v), some (.int o), some (.int (nI (i + 1)))] [] xG1 (shC I 65 i) J := by
  intro m
  induction m with
  | zero =>
    intro i hi
    obtain rfl : i = 39 := by omega
    refine iX12_changes_34 (iX12_changes_36 (iX12_changes_38 (fun h38 => ?_) (fun h38 => absurd (Int32.le_refl _) (by first | exact h38 | exact fun q => q h38))))
    exact kk
  | succ m ih =>
    intro i hi
    have hv1 : vp_in (nI (i + 1)) 40 := vp_in_nI (by omega) (by omega)
    have ep : nI (i + 1) - 1 = nI i := nI_pred i
    have hv0 : vp_in (nI (i + 1) - 1) 40 := by rw [ep]; exact vp_in_nI (by omega) (by omega)
    refine iX12_changes_34 (iX12_changes_36 (iX12_changes_38 (fun h38 => absurd h38 (nI_ge (b := 40) (a := i + 1) (by omega) (by omega))) (fun h38 => ?_)))
    refine iX12_changes_41 (iX12_changes_42 (iX12_changes_45 (iX12_changes_47 (iX12_changes_48 (iX12_changes_49 (iX12_changes_50 (iX12_changes_53 (iX12_changes_55 hv1 (iX12_changes_56 hv0 (iX12_changes_57 (iX12_changes_58 (iX12_changes_61 (iX12_changes_63 (iX12_changes_64 (iX12_changes_65 (iX12_changes_66 (iX12_changes_69 (iX12_changes_71 hv1 (iX12_changes_72 hv0 (iX12_changes_73 (iX12_changes_74 (iX12_changes_77 (iX12_changes_79 (iX12_changes_80 (iX12_changes_81 (iX12_changes_82 (iX12_changes_85 (iX12_changes_87 hv1 (iX12_changes_88 hv0 (iX12_changes_89 (iX12_changes_90 (iX12_changes_93 (iX12_changes_95 (iX12_changes_96 (iX12_changes_97 (iX12_changes_98 (iX12_changes_101 (iX12_changes_103 hv1 (iX12_changes_104 hv0 (iX12_changes_105 (iX12_changes_108 ?_)))))))))))))))))))))))))))))))))))))))))
    rw [ep, nI_clamp (by omega), nI_clamp (by omega)]
    have e1 : nI (i + 1) + (1) = nI (i + 1 + 1) := nI_1 _
    rw [e1]
    have e2 := chg_step (I := I) (i := i)
    rw [e2]
    exact ih (i + 1) (by omega)
end
