/-! ===== mend: the pair ===== -/
section
variable {I : xI} {J : xJ}
theorem s_X12_changes_same {n w v : Int32} (hhas : f_has I n w = 1) (hB : I 1 2 ≤ 10) (hS : I 1 3 ≤ 6) (hv : I (mrow w) (mcol w n) = v) : SpecF 1 M_X12_changes [.ref 57, .int w, .int n, .int v] xG1 I J (some (.int v)) I J := by
  refine specF_of (L := [some (.ref 57), some (.int w), some (.int n), some (.int v), none, none]) (by decide) (Nat.le_of_ble_eq_true rfl) rfl ?_
  have e : SpecF 0 M_X12_valueAt [.ref 57, .int w, .int n] xG1 I J (some (.int v)) I J := by
    have := s_X12_valueAt' (J := J) w n hhas hB hS
    rw [hv] at this
    exact this
  refine iX12_changes_0 (iX12_changes_1 (iX12_changes_2 (iX12_changes_3 e (iX12_changes_6 (iX12_changes_8 (iX12_changes_10 (iX12_changes_11 (fun h11 => absurd h11 (fun q => q rfl)) (fun h11 => ?_))))))))
  refine iX12_changes_14 (iX12_changes_16 ?_)
  exact ⟨rfl, rfl, rfl, rfl⟩
theorem s_X12_changes_ok {n w v : Int32} (hhas : f_has I n w = 1) (hB : I 1 2 ≤ 10) (hS : I 1 3 ≤ 6) (hv : ¬ I (mrow w) (mcol w n) = v) (h0 : ¬ I 57 10 < 0) (h1 : I 57 10 < 40) : SpecF 1 M_X12_changes [.ref 57, .int w, .int n, .int v] xG1 I J (some (.int (I (mrow w) (mcol w n)))) (xu (mg_rec (xu I 57 11 0) (I 57 10).toNatClampNeg n w (I (mrow w) (mcol w n)) v (I 57 10 + 1)) (mrow w) (mcol w n) v) J := by
  refine specF_of (L := [some (.ref 57), some (.int w), some (.int n), some (.int v), none, none]) (by decide) (Nat.le_of_ble_eq_true rfl) rfl ?_
  have n28 : ¬ I 57 10 = 40 := by grind
  refine iX12_changes_0 (iX12_changes_1 (iX12_changes_2 (iX12_changes_3 (s_X12_valueAt' _ _ hhas hB hS) (iX12_changes_6 (iX12_changes_8 (iX12_changes_10 (iX12_changes_11 (fun h11 => ?_) (fun h11 => absurd (hv) (by first | exact h11 | exact fun q => q h11)))))))))
  refine iX12_changes_17 (iX12_changes_18 (iX12_changes_19 (iX12_changes_22 (iX12_changes_23 (iX12_changes_26 (iX12_changes_28 (fun h28 => ?_) (fun h28 => absurd (n28) (by first | exact h28 | exact fun q => q h28))))))))
  exact chg_tail (I := xu I 57 11 0) hhas hB hS h0 h1 (Nat.le_refl _) (Or.inl rfl)
theorem s_X12_changes_full {n w v : Int32} (hhas : f_has I n w = 1) (hB : I 1 2 ≤ 10) (hS : I 1 3 ≤ 6) (hv : ¬ I (mrow w) (mcol w n) = v) (h1 : I 57 10 = 40) : SpecF 1 M_X12_changes [.ref 57, .int w, .int n, .int v] xG1 I J (some (.int (I (mrow w) (mcol w n)))) (xu (mg_rec (xu (shC (xu I 57 11 0) 65 39) 57 10 39) 39 n w (I (mrow w) (mcol w n)) v 40) (mrow w) (mcol w n) v) J := by
  refine specF_of (L := [some (.ref 57), some (.int w), some (.int n), some (.int v), none, none]) (by decide) (Nat.le_of_ble_eq_true rfl) rfl ?_
  have e28 : ¬ ¬ I 57 10 = 40 := fun q => q h1
  have e9 : shC (xu I 57 11 0) 65 39 57 10 - 1 = 39 := by
    show I 57 10 - 1 = 39
    rw [h1]
    rfl
  refine iX12_changes_0 (iX12_changes_1 (iX12_changes_2 (iX12_changes_3 (s_X12_valueAt' _ _ hhas hB hS) (iX12_changes_6 (iX12_changes_8 (iX12_changes_10 (iX12_changes_11 (fun h11 => ?_) (fun h11 => absurd (hv) (by first | exact h11 | exact fun q => q h11)))))))))
  refine iX12_changes_17 (iX12_changes_18 (iX12_changes_19 (iX12_changes_22 (iX12_changes_23 (iX12_changes_26 (iX12_changes_28 (fun h28 => absurd h28 (e28)) (fun h28 => ?_)))))))
  refine iX12_changes_31 (iX12_changes_32 ?_)
  have l := fun Q kk => chg_loop (d := 1) (I := xu I 57 11 0) (J := J) (n := n) (w := w) (v := v) (o := I (mrow w) (mcol w n)) (Q := Q) kk 39 0 (by omega)
  have e0 : shC (xu I 57 11 0) 65 0 = xu I 57 11 0 := by funext a b; simp [shC]
  rw [e0] at l
  refine l _ ?_
  refine iX12_changes_111 (iX12_changes_112 (iX12_changes_113 (iX12_changes_116 (iX12_changes_117 (iX12_changes_118 ?_)))))
  rw [e9]
  exact chg_tail (I := xu (shC (xu I 57 11 0) 65 39) 57 10 39) hhas hB hS (by exact (by decide : ¬ (39 : Int32) < 0)) (by exact (by decide : (39 : Int32) < 40)) (Nat.le_refl _) (Or.inr ⟨_, rfl⟩)
theorem mrow_in {w : Int32} : 58 ≤ mrow w ∧ mrow w ≤ 64 := by unfold mrow; grind
theorem val_eq {n w : Int32} (h : Inv I J) (hhas : f_has I n w = 1) : I (mrow w) (mcol w n) = I (7 + w.toNatClampNeg) n.toNatClampNeg := by
  obtain ⟨hh, hb, hse, hin, hch, hta, hle, him, hcl, hsh, hlw⟩ := h
  obtain ⟨hn, hc⟩ := has_cases hhas hh.2.2.2.1 hh.2.2.2.2.2
  obtain ⟨b1, b2, b3, b4, b5⟩ := hin
  rcases hc with ⟨hw, h1, h2⟩ | ⟨hw, h1, h2⟩ | ⟨hw, rfl⟩
  · have hnk : n.toNatClampNeg < 10 := clamp_lt' (N := 10) (by decide) hn h1
    have e : mcol w n = n.toNatClampNeg := by unfold mcol; rw [if_pos (by grind)]
    rw [e]
    have := hb _ hnk
    rcases hw with rfl | rfl | rfl | rfl
    · exact this.1
    · exact this.2.1
    · exact this.2.2.1
    · exact this.2.2.2.1
  · have hnk : n.toNatClampNeg < 6 := clamp_lt' (N := 6) (by decide) hn h1
    have e : mcol w n = n.toNatClampNeg := by unfold mcol; rw [if_pos (by grind)]
    rw [e]
    have := hse _ hnk
    rcases hw with rfl | rfl
    · exact this.1
    · exact this.2.1
  · rcases hw with rfl | rfl | rfl | rfl
    · exact b1
    · exact b2
    · exact b3
    · exact b4
theorem may_old {n w : Int32} (h : Inv I J) (hhas : f_has I n w = 1) : mayV w (I (7 + w.toNatClampNeg) n.toNatClampNeg) := by
  obtain ⟨hh, hb, hse, hin, hch, hta, hle, him, hcl, hsh, hlw⟩ := h
  obtain ⟨hn, hc⟩ := has_cases hhas hh.2.2.2.1 hh.2.2.2.2.2
  obtain ⟨b1, b2, b3, b4, b5⟩ := hin
  rcases hc with ⟨hw, h1, h2⟩ | ⟨hw, h1, h2⟩ | ⟨hw, rfl⟩
  · have := hb _ (clamp_lt' (N := 10) (n := 10) (by decide) hn h1)
    rcases hw with rfl | rfl | rfl | rfl
    · have q := may_0 (I 7 n.toNatClampNeg)
      show mayV 0 (I 7 n.toNatClampNeg)
      unfold mayV; unfold f_in at q; grind
    · have q := may_1 (I 8 n.toNatClampNeg)
      show mayV 1 (I 8 n.toNatClampNeg)
      unfold mayV; unfold f_in at q; grind
    · have q := may_2 (I 9 n.toNatClampNeg)
      show mayV 2 (I 9 n.toNatClampNeg)
      unfold mayV; unfold f_in at q; grind
    · have q := may_3 (I 10 n.toNatClampNeg)
      show mayV 3 (I 10 n.toNatClampNeg)
      unfold mayV; unfold f_in at q; grind
  · have := hse _ (clamp_lt' (N := 6) (n := 6) (by decide) hn h1)
    rcases hw with rfl | rfl
    · have q := may_4 (I 11 n.toNatClampNeg)
      show mayV 4 (I 11 n.toNatClampNeg)
      unfold mayV; unfold f_in at q; grind
    · have q := may_5 (I 12 n.toNatClampNeg)
      show mayV 5 (I 12 n.toNatClampNeg)
      unfold mayV; unfold f_in at q; grind
  · rcases hw with rfl | rfl | rfl | rfl
    · have q := may_6 (I 13 0)
      show mayV 6 (I 13 0)
      unfold mayV; unfold f_in at q; grind
    · have q := may_7 (I 14 0)
      show mayV 7 (I 14 0)
      unfold mayV; unfold f_in at q; grind
    · have q := may_8 (I 15 0)
      show mayV 8 (I 15 0)
      unfold mayV; unfold f_in at q; grind
    · have q := may_9 (I 16 0)
      show mayV 9 (I 16 0)
      unfold mayV; unfold f_in at q; grind
theorem chF_full {n w o v : Int32} {r q mr mq : Nat} (hr7 : 7 ≤ r) (hr : r ≤ 16) (h1 : 58 ≤ mr) (h2 : mr ≤ 64) {F : xI} (hF : F = xu (mg_rec (xu (shC (xu (xu (g_rec (shC (xu I 20 5 39) 21 39) 39 n w o v 40) r q v) 57 11 0) 65 39) 57 10 39) 39 n w o v 40) mr mq v) : F 57 10 = 40 ∧ F 20 5 = 40 ∧ F 20 6 = 40 ∧ F 57 11 = 0 ∧ (∀ k, F 65 k = if k = 39 then w else if k < 39 then I 65 (k + 1) else I 65 k) ∧ (∀ k, F 66 k = if k = 39 then n else if k < 39 then I 66 (k + 1) else I 66 k) ∧ (∀ k, F 67 k = if k = 39 then o else if k < 39 then I 67 (k + 1) else I 67 k) ∧ (∀ k, F 68 k = if k = 39 then v else if k < 39 then I 68 (k + 1) else I 68 k) ∧ (∀ k, F 21 k = if k = 39 then n else if k < 39 then I 21 (k + 1) else I 21 k) ∧ (∀ k, F 22 k = if k = 39 then w else if k < 39 then I 22 (k + 1) else I 22 k) ∧ (∀ k, F 23 k = if k = 39 then o else if k < 39 then I 23 (k + 1) else I 23 k) ∧ (∀ k, F 24 k = if k = 39 then v else if k < 39 then I 24 (k + 1) else I 24 k) ∧ F 1 2 = I 1 2 ∧ F 1 3 = I 1 3 := by
  subst hF
  refine ⟨?_, ?_, ?_, ?_, ?_, ?_, ?_, ?_, ?_, ?_, ?_, ?_, ?_, ?_⟩ <;> (try intro k) <;> simp only [mg_rec, g_rec, xu, shC] <;> grind
theorem chF_ok {m : Nat} {n w o v c : Int32} {r q mr mq : Nat} (hr7 : 7 ≤ r) (hr : r ≤ 16) (h1 : 58 ≤ mr) (h2 : mr ≤ 64) {F : xI} (hF : F = xu (mg_rec (xu (xu (g_rec I m n w o v c) r q v) 57 11 0) m n w o v c) mr mq v) : F 57 10 = c ∧ F 20 5 = c ∧ F 20 6 = c ∧ F 57 11 = 0 ∧ (∀ k, F 65 k = if k = m then w else I 65 k) ∧ (∀ k, F 66 k = if k = m then n else I 66 k) ∧ (∀ k, F 67 k = if k = m then o else I 67 k) ∧ (∀ k, F 68 k = if k = m then v else I 68 k) ∧ (∀ k, F 21 k = if k = m then n else I 21 k) ∧ (∀ k, F 22 k = if k = m then w else I 22 k) ∧ (∀ k, F 23 k = if k = m then o else I 23 k) ∧ (∀ k, F 24 k = if k = m then v else I 24 k) ∧ F 1 2 = I 1 2 ∧ F 1 3 = I 1 3 := by
  subst hF
  refine ⟨?_, ?_, ?_, ?_, ?_, ?_, ?_, ?_, ?_, ?_, ?_, ?_, ?_, ?_⟩ <;> (try intro k) <;> simp only [mg_rec, g_rec, xu, shC] <;> grind
theorem chOk_mono {I' : xI} {n w a b : Int32} (h : chOk I n w a b) (h2 : I' 1 2 = I 1 2) (h3 : I' 1 3 = I 1 3) : chOk I' n w a b := by
  refine ⟨?_, h.2⟩
  have := h.1
  unfold f_has at this ⊢
  rw [h2, h3]
  exact this
theorem chg_app {F : xI} {m : Nat} (hm : m < 40) (e1 : F 57 10 = nI (m + 1)) (e2 : F 20 5 = nI (m + 1)) (e3 : F 20 6 = nI (m + 1)) (e4 : F 57 11 = 0) (hold : ∀ k : Nat, k < m + 1 → F 65 k = F 22 k ∧ F 66 k = F 21 k ∧ F 67 k = F 23 k ∧ F 68 k = F 24 k ∧ chOk F (F 21 k) (F 22 k) (F 23 k) (F 24 k)) : ivChg F := by
  refine ⟨by rw [e1, e2], by rw [e4, e3, e2]; grind, by rw [e2]; exact nI_pos' (by omega), by rw [e2, e3]; exact Int32.le_refl _, by rw [e3]; exact nI_le (b := 40) (by omega) (by omega), fun k hk hk2 => ?_⟩
  rw [e3] at hk2
  exact hold k ((nI_ltI (by omega) (by omega)).mp hk2)
end
theorem pp_mend : PP_mend Inv := by
  intro I J h n w v
  obtain ⟨hh, hb, hse, hin, hch, hta, hle, him, hcl, hsh, hlw⟩ := id h
  obtain ⟨a1, a2, a3, hB, a5, hS⟩ := id hh
  have hpl := f_place_has hh n w
  by_cases hp : f_has I n w = 0
  · refine pair_of (v := -2000000000) (v' := -2000000000) (I1 := I) (I2 := I) (J1 := J) (J2 := J) ?_ ?_ rfl h
    · refine specF_of (L := [some (.ref 0), some (.int n), some (.int w), some (.int v), none]) (by decide) (Nat.le_of_ble_eq_true rfl) rfl ?_
      refine iX11_mend_0 (iX11_mend_1 (iX11_mend_4 (iX11_mend_5 (iX11_mend_6 (s_X5_has _ _) (iX11_mend_9 (fun h9 => ?_) (fun h9 => absurd (hp) (by first | exact h9 | exact fun q => q h9)))))))
      refine iX11_mend_20 (iX11_mend_22 ?_)
      first | exact ⟨rfl, rfl, rfl, rfl⟩ | (exfalso; (try simp only [f_in] at *); grind)
    · refine specF_of (L := [some (.ref 57), some (.int n), some (.int w), some (.int v)]) (by decide) (Nat.le_of_ble_eq_true rfl) rfl ?_
      have e6 : f_place I n w = 0 := by rw [hpl, hp]
      refine iX12_mend_0 (iX12_mend_1 (iX12_mend_2 (iX12_mend_3 (s_X12_isPlace _ _) (iX12_mend_6 (fun h6 => ?_) (fun h6 => absurd (e6) (by first | exact h6 | exact fun q => q h6))))))
      refine iX12_mend_27 (iX12_mend_29 ?_)
      first | exact ⟨rfl, rfl, rfl, rfl⟩ | (exfalso; (try simp only [f_in] at *); grind)
  have hhas : f_has I n w = 1 := by have := @f_has_01 I n w; grind
  have hpl6 : ¬ f_place I n w = 0 := by rw [hpl]; exact hp
  have hme := may_eq (v := v) hhas hB hS
  by_cases hm : f_may w v = 0
  · refine pair_of (v := -2000000000) (v' := -2000000000) (I1 := I) (I2 := I) (J1 := J) (J2 := J) ?_ ?_ rfl h
    · refine specF_of (L := [some (.ref 0), some (.int n), some (.int w), some (.int v), none]) (by decide) (Nat.le_of_ble_eq_true rfl) rfl ?_
      refine iX11_mend_0 (iX11_mend_1 (iX11_mend_4 (iX11_mend_5 (iX11_mend_6 (s_X5_has _ _) (iX11_mend_9 (fun h9 => absurd h9 (hp)) (fun h9 => ?_))))))
      refine iX11_mend_12 (iX11_mend_13 (iX11_mend_14 (s_X5_may _ _) (iX11_mend_17 (fun h17 => absurd h17 (fun q => q hm)) (fun h17 => ?_))))
      refine iX11_mend_20 (iX11_mend_22 ?_)
      first | exact ⟨rfl, rfl, rfl, rfl⟩ | (exfalso; (try simp only [f_in] at *); grind)
    · refine specF_of (L := [some (.ref 57), some (.int n), some (.int w), some (.int v)]) (by decide) (Nat.le_of_ble_eq_true rfl) rfl ?_
      have e14 : f_mayM w v = 0 := by rw [hme, hm]
      refine iX12_mend_0 (iX12_mend_1 (iX12_mend_2 (iX12_mend_3 (s_X12_isPlace _ _) (iX12_mend_6 (fun h6 => absurd h6 (hpl6)) (fun h6 => ?_)))))
      refine iX12_mend_9 (iX12_mend_10 (iX12_mend_11 (s_X12_mayHave _ _) (iX12_mend_14 (fun h14 => ?_) (fun h14 => absurd (e14) (by first | exact h14 | exact fun q => q h14)))))
      refine iX12_mend_27 (iX12_mend_29 ?_)
      first | exact ⟨rfl, rfl, rfl, rfl⟩ | (exfalso; (try simp only [f_in] at *); grind)
  have hmay : f_may w v = 1 := by unfold f_may at hm ⊢; grind
  have hm14 : ¬ f_mayM w v = 0 := by rw [hme]; exact hm
  have hval := val_eq h hhas
  have hc := has_cases hhas hB hS
  have hw10 : w.toNatClampNeg < 10 := clamp_lt' (N := 10) (by decide) (by grind) (by grind)
  have hmr := @mrow_in w
  have hget : ∀ J, SpecF 1 M_X5_get [.ref 1, .int n, .int w] xG1 I J (some (.int (I (7 + w.toNatClampNeg) n.toNatClampNeg))) I J := fun J => s_get1 hhas hB hS
  by_cases hsame : I (7 + w.toNatClampNeg) n.toNatClampNeg = v
  · refine pair_of (v := v) (v' := v) (I1 := I) (I2 := I) (J1 := J) (J2 := J) ?_ ?_ rfl h
    · refine specF_of (L := [some (.ref 0), some (.int n), some (.int w), some (.int v), none]) (by decide) (Nat.le_of_ble_eq_true rfl) rfl ?_
      refine iX11_mend_0 (iX11_mend_1 (iX11_mend_4 (iX11_mend_5 (iX11_mend_6 (s_X5_has _ _) (iX11_mend_9 (fun h9 => absurd h9 (hp)) (fun h9 => ?_))))))
      refine iX11_mend_12 (iX11_mend_13 (iX11_mend_14 (s_X5_may _ _) (iX11_mend_17 (fun h17 => ?_) (fun h17 => absurd (hm) (by first | exact h17 | exact fun q => q h17)))))
      refine iX11_mend_23 (iX11_mend_24 (iX11_mend_27 (iX11_mend_28 (iX11_mend_29 (hget _) (iX11_mend_32 (iX11_mend_34 (iX11_mend_36 (iX11_mend_37 (fun h37 => ?_) (fun h37 => absurd (hsame) (by first | exact h37 | exact fun q => q h37))))))))))
      refine iX11_mend_50 (iX11_mend_52 ?_)
      rw [hsame]
      exact ⟨rfl, rfl, rfl, rfl⟩
    · refine specF_of (L := [some (.ref 57), some (.int n), some (.int w), some (.int v)]) (by decide) (Nat.le_of_ble_eq_true rfl) rfl ?_
      refine iX12_mend_0 (iX12_mend_1 (iX12_mend_2 (iX12_mend_3 (s_X12_isPlace _ _) (iX12_mend_6 (fun h6 => absurd h6 (hpl6)) (fun h6 => ?_)))))
      refine iX12_mend_9 (iX12_mend_10 (iX12_mend_11 (s_X12_mayHave _ _) (iX12_mend_14 (fun h14 => absurd h14 (hm14)) (fun h14 => ?_))))
      refine iX12_mend_17 (iX12_mend_18 (iX12_mend_19 (iX12_mend_20 (iX12_mend_21 (s_X12_changes_same hhas hB hS (hval.trans hsame)) (iX12_mend_24 (iX12_mend_29 ?_))))))
      first | exact ⟨rfl, rfl, rfl, rfl⟩ | (exfalso; (try simp only [f_in] at *); grind)
  obtain ⟨ch1, ch2, ch3, ch4, ch5, ch6⟩ := id hch
  have hlay := inv_lay h hhas (Or.inl hmay)
  have hmayo := may_old h hhas
  have hnew : chOk I n w (I (7 + w.toNatClampNeg) n.toNatClampNeg) v := ⟨hhas, hmayo, Or.inl hmay⟩
  by_cases hfull : I 20 5 = 40
  · have hall : I 20 6 = 40 := by grind
    let o := I (7 + w.toNatClampNeg) n.toNatClampNeg
    let C := xu (g_rec (shC (xu I 20 5 39) 21 39) 39 n w o v 40) (7 + w.toNatClampNeg) n.toNatClampNeg v
    have eo : C (mrow w) (mcol w n) = o := by
      refine Eq.trans ?_ hval
      simp only [C, g_rec, xu, shC]
      grind
    have eB : C 1 2 = I 1 2 := by simp only [C, g_rec, xu, shC]; grind
    have eS : C 1 3 = I 1 3 := by simp only [C, g_rec, xu, shC]; grind
    have e10 : C 57 10 = 40 := by simp only [C, g_rec, xu, shC]; grind
    have hCh : f_has C n w = 1 := by unfold f_has at hhas ⊢; rw [eB, eS]; exact hhas
    have sM := s_X12_changes_full (I := C) (J := J) (n := n) (w := w) (v := v) hCh (by rw [eB]; exact hB) (by rw [eS]; exact hS) (by rw [eo]; exact hsame) e10
    rw [eo] at sM
    refine pair_of (v := o) (v' := o) (I1 := C) (I2 := xu (mg_rec (xu (shC (xu C 57 11 0) 65 39) 57 10 39) 39 n w o v 40) (mrow w) (mcol w n) v) (J1 := J) (J2 := J) ?_ ?_ rfl ?_
    · refine specF_of (L := [some (.ref 0), some (.int n), some (.int w), some (.int v), none]) (by decide) (Nat.le_of_ble_eq_true rfl) rfl ?_
      refine iX11_mend_0 (iX11_mend_1 (iX11_mend_4 (iX11_mend_5 (iX11_mend_6 (s_X5_has _ _) (iX11_mend_9 (fun h9 => absurd h9 (hp)) (fun h9 => ?_))))))
      refine iX11_mend_12 (iX11_mend_13 (iX11_mend_14 (s_X5_may _ _) (iX11_mend_17 (fun h17 => ?_) (fun h17 => absurd (hm) (by first | exact h17 | exact fun q => q h17)))))
      refine iX11_mend_23 (iX11_mend_24 (iX11_mend_27 (iX11_mend_28 (iX11_mend_29 (hget _) (iX11_mend_32 (iX11_mend_34 (iX11_mend_36 (iX11_mend_37 (fun h37 => absurd h37 (hsame)) (fun h37 => ?_)))))))))
      refine iX11_mend_40 (iX11_mend_41 (iX11_mend_44 (iX11_mend_45 (iX11_mend_46 (iX11_mend_47 (s_X2_make_full hhas hB hS hfull) (iX11_mend_50 (iX11_mend_52 ?_)))))))
      first | exact ⟨rfl, rfl, rfl, rfl⟩ | (exfalso; (try simp only [f_in] at *); grind)
    · refine specF_of (L := [some (.ref 57), some (.int n), some (.int w), some (.int v)]) (by decide) (Nat.le_of_ble_eq_true rfl) rfl ?_
      have e6 : f_place C n w = f_place I n w := by unfold f_place; rw [show C 57 1 = I 57 1 by simp only [C, g_rec, xu, shC]; grind, show C 57 6 = I 57 6 by simp only [C, g_rec, xu, shC]; grind]
      have e7 : ¬ f_place C n w = 0 := by rw [e6]; exact hpl6
      refine iX12_mend_0 (iX12_mend_1 (iX12_mend_2 (iX12_mend_3 (s_X12_isPlace _ _) (iX12_mend_6 (fun h6 => absurd h6 (e7)) (fun h6 => ?_)))))
      refine iX12_mend_9 (iX12_mend_10 (iX12_mend_11 (s_X12_mayHave _ _) (iX12_mend_14 (fun h14 => absurd h14 (hm14)) (fun h14 => ?_))))
      refine iX12_mend_17 (iX12_mend_18 (iX12_mend_19 (iX12_mend_20 (iX12_mend_21 sM (iX12_mend_24 (iX12_mend_29 ?_))))))
      first | exact ⟨rfl, rfl, rfl, rfl⟩ | (exfalso; (try simp only [f_in] at *); grind)
    refine inv_log_frame hlay ?_ ?_
    · exact frn (frl rfl (frl rfl (frl rfl (frl rfl (frl rfl (frl rfl (frs lg65 (frl rfl (frn (frl rfl (frl rfl (frl rfl (frl rfl (frl rfl (frl rfl (frs lg21 (frl rfl (fun _ _ _ => rfl))))))))))))))))))
    · obtain ⟨f1, f2, f3, f4, f5, f6, f7, f8, f9, f10, f11, f12, f13, f14⟩ := chF_full (I := I) (n := n) (w := w) (o := o) (v := v) (r := 7 + w.toNatClampNeg) (q := n.toNatClampNeg) (mr := mrow w) (mq := mcol w n) (by omega) (by omega) hmr.1 hmr.2 rfl
      refine chg_app (m := 39) (by decide) f1 f2 f3 f4 (fun k hk => ?_)
      rw [f5, f6, f7, f8, f9, f10, f11, f12]
      by_cases e : k = 39
      · simp only [e, if_true]
        exact ⟨trivial, trivial, trivial, trivial, chOk_mono hnew f13 f14⟩
      · simp only [e, if_false, show k < 39 by omega, if_true]
        obtain ⟨d1, d2, d3, d4, d5⟩ := ch6 (k + 1) (by omega) (by rw [hall]; exact nI_lt (b := 40) (by omega) (by omega))
        exact ⟨d1, d2, d3, d4, chOk_mono d5 f13 f14⟩
  · have hm0 : ¬ I 20 5 < 0 := by grind
    have hm1 : I 20 5 < 40 := by grind
    obtain ⟨m, hm39, em⟩ := nI_of2 (x := I 20 5) (M := 39) (n := 39) (by decide) hm0 (by grind)
    have ec : (I 20 5).toNatClampNeg = m := by rw [em]; exact nI_clamp (by omega)
    let o := I (7 + w.toNatClampNeg) n.toNatClampNeg
    let C := xu (g_rec I m n w o v (I 20 5 + 1)) (7 + w.toNatClampNeg) n.toNatClampNeg v
    have eo : C (mrow w) (mcol w n) = o := by
      refine Eq.trans ?_ hval
      simp only [C, g_rec, xu]
      grind
    have eB : C 1 2 = I 1 2 := by simp only [C, g_rec, xu]; grind
    have eS : C 1 3 = I 1 3 := by simp only [C, g_rec, xu]; grind
    have e10 : C 57 10 = I 20 5 := by refine Eq.trans ?_ ch1; simp only [C, g_rec, xu]; grind
    have hCh : f_has C n w = 1 := by unfold f_has at hhas ⊢; rw [eB, eS]; exact hhas
    have sM := s_X12_changes_ok (I := C) (J := J) (n := n) (w := w) (v := v) hCh (by rw [eB]; exact hB) (by rw [eS]; exact hS) (by rw [eo]; exact hsame) (by rw [e10]; exact hm0) (by rw [e10]; exact hm1)
    rw [eo, e10, ec] at sM
    have sC := s_X2_make_ok (J := J) (v := v) hhas hB hS hm0 hm1
    rw [ec] at sC
    refine pair_of (v := o) (v' := o) (I1 := C) (I2 := xu (mg_rec (xu C 57 11 0) m n w o v (I 20 5 + 1)) (mrow w) (mcol w n) v) (J1 := J) (J2 := J) ?_ ?_ rfl ?_
    · refine specF_of (L := [some (.ref 0), some (.int n), some (.int w), some (.int v), none]) (by decide) (Nat.le_of_ble_eq_true rfl) rfl ?_
      refine iX11_mend_0 (iX11_mend_1 (iX11_mend_4 (iX11_mend_5 (iX11_mend_6 (s_X5_has _ _) (iX11_mend_9 (fun h9 => absurd h9 (hp)) (fun h9 => ?_))))))
      refine iX11_mend_12 (iX11_mend_13 (iX11_mend_14 (s_X5_may _ _) (iX11_mend_17 (fun h17 => ?_) (fun h17 => absurd (hm) (by first | exact h17 | exact fun q => q h17)))))
      refine iX11_mend_23 (iX11_mend_24 (iX11_mend_27 (iX11_mend_28 (iX11_mend_29 (hget _) (iX11_mend_32 (iX11_mend_34 (iX11_mend_36 (iX11_mend_37 (fun h37 => absurd h37 (hsame)) (fun h37 => ?_)))))))))
      refine iX11_mend_40 (iX11_mend_41 (iX11_mend_44 (iX11_mend_45 (iX11_mend_46 (iX11_mend_47 sC (iX11_mend_50 (iX11_mend_52 ?_)))))))
      first | exact ⟨rfl, rfl, rfl, rfl⟩ | (exfalso; (try simp only [f_in] at *); grind)
    · refine specF_of (L := [some (.ref 57), some (.int n), some (.int w), some (.int v)]) (by decide) (Nat.le_of_ble_eq_true rfl) rfl ?_
      have e6 : f_place C n w = f_place I n w := by unfold f_place; rw [show C 57 1 = I 57 1 by simp only [C, g_rec, xu]; grind, show C 57 6 = I 57 6 by simp only [C, g_rec, xu]; grind]
      have e7 : ¬ f_place C n w = 0 := by rw [e6]; exact hpl6
      refine iX12_mend_0 (iX12_mend_1 (iX12_mend_2 (iX12_mend_3 (s_X12_isPlace _ _) (iX12_mend_6 (fun h6 => absurd h6 (e7)) (fun h6 => ?_)))))
      refine iX12_mend_9 (iX12_mend_10 (iX12_mend_11 (s_X12_mayHave _ _) (iX12_mend_14 (fun h14 => absurd h14 (hm14)) (fun h14 => ?_))))
      refine iX12_mend_17 (iX12_mend_18 (iX12_mend_19 (iX12_mend_20 (iX12_mend_21 sM (iX12_mend_24 (iX12_mend_29 ?_))))))
      first | exact ⟨rfl, rfl, rfl, rfl⟩ | (exfalso; (try simp only [f_in] at *); grind)
    refine inv_log_frame hlay ?_ ?_
    · exact frn (frl rfl (frl rfl (frl rfl (frl rfl (frl rfl (frl rfl (frn (frl rfl (frl rfl (frl rfl (frl rfl (frl rfl (frl rfl (fun _ _ _ => rfl))))))))))))))
    · have e1 : I 20 5 + 1 = nI (m + 1) := by rw [em]; exact nI_1 m
      obtain ⟨f1, f2, f3, f4, f5, f6, f7, f8, f9, f10, f11, f12, f13, f14⟩ := chF_ok (I := I) (m := m) (n := n) (w := w) (o := o) (v := v) (c := I 20 5 + 1) (r := 7 + w.toNatClampNeg) (q := n.toNatClampNeg) (mr := mrow w) (mq := mcol w n) (by omega) (by omega) hmr.1 hmr.2 rfl
      rw [e1] at f1 f2 f3
      refine chg_app (m := m) (by omega) (by rw [← e1] at f1 ⊢; exact f1) (by rw [← e1] at f2 ⊢; exact f2) (by rw [← e1] at f3 ⊢; exact f3) f4 (fun k hk => ?_)
      rw [f5, f6, f7, f8, f9, f10, f11, f12]
      by_cases e : k = m
      · simp only [e, if_true]
        exact ⟨trivial, trivial, trivial, trivial, chOk_mono hnew f13 f14⟩
      · simp only [e, if_false]
        obtain ⟨d1, d2, d3, d4, d5⟩ := ch6 k (by omega) (by have : nI k < I 20 5 := by rw [em]; exact nI_lt (by omega) (by omega)
                                                            grind)
        exact ⟨d1, d2, d3, d4, chOk_mono d5 f13 f14⟩
