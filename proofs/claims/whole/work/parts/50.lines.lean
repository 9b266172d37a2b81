/-! ===== the class's lines ===== -/
noncomputable def lw (F : Nat → Int32) : lwT → Int32
  | [] => 0
  | l :: ls => @ite _ (l.1 = [] ∨ ¬ (ev F l.1 []).headD 0 = 0) (Classical.propDecidable _) ((ev F l.2 []).headD 0) (lw F ls)
theorem tok_not59 {t : Int32} (h : tokOk t) : ¬ t = -59 := by
  intro q
  subst q
  rcases h with h | h
  · exact absurd h (by decide)
  · exact absurd h (by decide)
theorem get_app {α : Type} {A B C : List α} {i : Nat} (h : ∀ (k : Nat) (t : α), (A ++ B)[k]? = some t → C[i + k]? = some t) : (∀ (k : Nat) (t : α), A[k]? = some t → C[i + k]? = some t) ∧ ∀ (k : Nat) (t : α), B[k]? = some t → C[i + A.length + k]? = some t := by
  refine ⟨fun k t hk => h k t ?_, fun k t hk => ?_⟩
  · rw [List.getElem?_append_left (List.getElem?_eq_some_iff.mp hk).1]; exact hk
  · rw [show i + A.length + k = i + (A.length + k) by omega]
    refine h _ _ ?_
    rw [List.getElem?_append_right (by omega), show A.length + k - A.length = k by omega]
    exact hk
section
variable {I0 : xI} {J : xJ}
theorem s_X6_endOfLine {C : List Int32} (hC : C.length ≤ 121) (hn : I0 2 3 = nI C.length) (hc : ∀ (k : Nat) (t : Int32), C[k]? = some t → I0 3 k = t) : ∀ (m i : Nat) (ts : List Int32), m = ts.length → (∀ (k : Nat) (t : Int32), ts[k]? = some t → C[i + k]? = some t ∧ ¬ t = -59) → C[i + ts.length]? = some (-59) → ∀ x : Int32, WP 0 (1000000, 0, 0) none M_X6_endOfLine (fun r2 g2 I2 J2 => r2 = some (.int (nI (i + ts.length))) ∧ g2 = xG1 ∧ I2 = I0 ∧ J2 = J) 2 [some (.ref 2), some (.int x), some (.int (nI i))] [] xG1 I0 J := by
  intro m
  induction m with
  | zero =>
    intro i ts hm h1 h2 x
    have e0 : ts = [] := List.eq_nil_of_length_eq_zero hm.symm
    subst e0
    have hi : i < C.length := (List.getElem?_eq_some_iff.mp h2).1
    have t7 : ¬ I0 2 3 ≤ nI i := by rw [hn]; exact nI_ge hi (by omega)
    have f3 : I0 3 i = -59 := hc _ _ h2
    refine iX6_endOfLine_2 (iX6_endOfLine_3 (iX6_endOfLine_4 (iX6_endOfLine_7 (fun h7 => absurd h7 (t7)) (fun h7 => ?_))))
    refine iX6_endOfLine_10 (iX6_endOfLine_11 (iX6_endOfLine_14 (iX6_endOfLine_15 (vp_in_nI (by omega) (by omega)) ?_)))
    rw [nI_clamp (by omega), f3]
    refine iX6_endOfLine_16 (iX6_endOfLine_18 (fun h18 => ?_) (fun h18 => absurd (rfl) (by first | exact h18 | exact fun q => q h18)))
    refine iX6_endOfLine_27 (iX6_endOfLine_28 ?_)
    exact ⟨rfl, rfl, rfl, rfl⟩
  | succ m ih =>
    intro i ts hm h1 h2 x
    match ts, hm, h1, h2 with
    | t :: ts, hm, h1, h2 =>
    obtain ⟨ht, ht2⟩ := h1 0 t rfl
    have hi : i < C.length := (List.getElem?_eq_some_iff.mp ht).1
    have t7 : ¬ I0 2 3 ≤ nI i := by rw [hn]; exact nI_ge hi (by omega)
    have f3 : I0 3 i = t := hc _ _ ht
    have el : i + 1 + ts.length = i + (t :: ts).length := by simp only [List.length_cons]; omega
    have e1 : nI i + (1) = nI (i + 1) := nI_1 _
    refine iX6_endOfLine_2 (iX6_endOfLine_3 (iX6_endOfLine_4 (iX6_endOfLine_7 (fun h7 => absurd h7 (t7)) (fun h7 => ?_))))
    refine iX6_endOfLine_10 (iX6_endOfLine_11 (iX6_endOfLine_14 (iX6_endOfLine_15 (vp_in_nI (by omega) (by omega)) ?_)))
    rw [nI_clamp (by omega), f3]
    refine iX6_endOfLine_16 (iX6_endOfLine_18 (fun h18 => absurd h18 (ht2)) (fun h18 => ?_))
    refine iX6_endOfLine_21 (iX6_endOfLine_24 ?_)
    rw [e1, ← el]
    refine ih (i + 1) ts (by simpa using hm) (fun k t hk => ?_) (by rw [el]; exact h2) _
    rw [show i + 1 + k = i + (k + 1) by omega]
    exact h1 (k + 1) t hk
theorem c_value {F : Nat → Int32} {C : List Int32} (hC : C.length ≤ 121) (hn : I0 2 3 = nI C.length) (hc : ∀ (k : Nat) (t : Int32), C[k]? = some t → I0 3 k = t) (hF : ∀ j : Nat, j < 6 → I0 4 j = F j) {ts : List Int32} {i : Nat} (hts : okE ts) (h1 : ∀ (k : Nat) (t : Int32), ts[k]? = some t → C[i + k]? = some t) (h2 : C[i + ts.length]? = some (-59)) {I : xI} (hI : xFr [5] I0 I) : ∀ a3, WP 5 (1000000, 0, 0) none M_X6_written (fun r2 g2 I2 J2 => r2 = some (.int ((ev F ts []).headD 0)) ∧ g2 = xG1 ∧ xFr [5] I0 I2 ∧ J2 = J) 4 [some (.ref 2), some (.int (nI 0)), some (.int (nI i)), a3] [] xG1 I J := by
  refine c_seg hC hn hc hF ts i 0 [] I h1 hts.2 rfl (by omega) hts.1 trivial hI (fun I1 hI1 hrep a3 => ?_)
  have hlen := ev_len (F := F) ts [] hts.2 hts.1
  have hi : i + ts.length < C.length := (List.getElem?_eq_some_iff.mp h2).1
  have t9 : ¬ I1 2 3 ≤ nI (i + ts.length) := by rw [hI1 2 (by decide), hn]; exact nI_ge hi (by omega)
  have f3 : I1 3 (i + ts.length) = -59 := by rw [hI1 3 (by decide)]; exact hc _ _ h2
  match hE : ev F ts [], hlen, hrep with
  | [v], _, hrep =>
  have f5 : I1 5 0 = v := hrep.1
  have ep : nI 1 - 1 = nI 0 := nI_pred 0
  refine iX6_written_4 (iX6_written_5 (iX6_written_6 (iX6_written_9 (fun h9 => absurd h9 (t9)) (fun h9 => ?_))))
  refine iX6_written_12 (iX6_written_13 (iX6_written_14 (iX6_written_17 (iX6_written_18 (fun h18 => absurd h18 ((by decide))) (fun h18 => ?_)))))
  refine iX6_written_21 (iX6_written_22 (iX6_written_25 (iX6_written_26 (vp_in_nI (by omega) (by omega)) ?_)))
  rw [nI_clamp (by omega), f3]
  refine iX6_written_27 (iX6_written_28 (iX6_written_29 (iX6_written_30 (fun h30 => ?_) (fun h30 => absurd ((by decide : (0 : Int32) < -(-59))) (by first | exact h30 | exact fun q => q h30)))))
  refine iX6_written_51 (iX6_written_52 (iX6_written_53 (iX6_written_56 (iX6_written_57 (fun h57 => ?_) (fun h57 => absurd ((by decide : (6 : Int32) < -(-59))) (by first | exact h57 | exact fun q => q h57))))))
  refine iX6_written_80 (iX6_written_81 (iX6_written_82 (fun h82 => ?_) (fun h82 => absurd ((by decide : (1 : Int32) ≤ nI 1)) (by first | exact h82 | exact fun q => q h82))))
  refine iX6_written_87 (iX6_written_88 (iX6_written_90 (fun h90 => absurd h90 ((fun w => w (by decide : -(-59 : Int32) = 59)))) (fun h90 => ?_)))
  refine iX6_written_93 (iX6_written_94 (iX6_written_97 (iX6_written_98 (iX6_written_99 ?_))))
  rw [ep]
  refine iX6_written_100 (vp_in_nI (by omega) (by omega)) (iX6_written_101 ?_)
  refine ⟨?_, rfl, hI1, rfl⟩
  rw [nI_clamp (by omega), f5]
  rfl
theorem c_lines {F : Nat → Int32} {C : List Int32} (hC : C.length ≤ 121) (hn : I0 2 3 = nI C.length) (hc : ∀ (k : Nat) (t : Int32), C[k]? = some t → I0 3 k = t) (hF : ∀ j : Nat, j < 6 → I0 4 j = F j) : ∀ (ls : lwT) (i : Nat), (∀ l ∈ ls, (l.1 = [] ∨ okE l.1) ∧ okE l.2) → (∀ (k : Nat) (t : Int32), (lwClass ls)[k]? = some t → C[i + k]? = some t) → i + (lwClass ls).length = C.length → ∀ (I : xI), xFr [5] I0 I → ∀ a3, WP 5 (1000000, 0, 0) none M_X6_written (fun r2 g2 I2 J2 => r2 = some (.int (lw F ls)) ∧ g2 = xG1 ∧ xFr [5] I0 I2 ∧ J2 = J) 4 [some (.ref 2), some (.int (nI 0)), some (.int (nI i)), a3] [] xG1 I J := by
  intro ls
  induction ls with
  | nil =>
    intro i _ _ hl I hI a3
    have e : i = C.length := by simpa [lwClass] using hl
    have t9 : I 2 3 ≤ nI i := by rw [hI 2 (by decide), hn, e]; exact Int32.le_refl _
    refine iX6_written_4 (iX6_written_5 (iX6_written_6 (iX6_written_9 (fun h9 => ?_) (fun h9 => absurd (t9) (by first | exact h9 | exact fun q => q h9)))))
    refine iX6_written_230 (iX6_written_231 ?_)
    exact ⟨rfl, rfl, hI, rfl⟩
  | cons l ls ih =>
    intro i hok h1 hl I hI a3
    obtain ⟨o1, o2⟩ := hok l List.mem_cons_self
    have hok' := fun x hx => hok x (List.mem_cons_of_mem _ hx)
    have eC : lwClass (l :: ls) = (if l.1 = [] then [] else l.1 ++ [-63]) ++ ((l.2 ++ [-59]) ++ lwClass ls) := by simp [lwClass]
    rw [eC] at h1 hl
    by_cases q : l.1 = []
    · rw [if_pos q, List.nil_append] at h1 hl
      obtain ⟨h2, -⟩ := get_app h1
      obtain ⟨h3, h4⟩ := get_app h2
      have e : lw F (l :: ls) = (ev F l.2 []).headD 0 := by simp only [lw]; rw [if_pos (Or.inl q)]
      rw [e]
      exact c_value hC hn hc hF o2 h3 (h4 0 _ rfl) hI a3
    · have o1 : okE l.1 := o1.resolve_left q
      rw [if_neg q] at h1 hl
      obtain ⟨hA, hB⟩ := get_app h1
      obtain ⟨hA1, hA2⟩ := get_app hA
      obtain ⟨hB1, hB2⟩ := get_app hB
      obtain ⟨hB3, hB4⟩ := get_app hB1
      have hq := hA2 0 _ rfl
      rw [Nat.add_zero] at hq
      simp only [List.length_append, List.length_cons, List.length_nil] at hl hB2 hB3 hB4
      refine c_seg hC hn hc hF l.1 i 0 [] I hA1 o1.2 rfl (by omega) o1.1 trivial hI (fun I1 hI1 hrep a3 => ?_) a3
      have hlen := ev_len (F := F) l.1 [] o1.2 o1.1
      have t9 : ¬ I1 2 3 ≤ nI (i + l.1.length) := by rw [hI1 2 (by decide), hn]; exact nI_ge (by omega) (by omega)
      have f3 : I1 3 (i + l.1.length) = -63 := by rw [hI1 3 (by decide)]; exact hc _ _ hq
      match hE : ev F l.1 [], hlen, hrep with
      | [v], _, hrep =>
      have f5 : I1 5 0 = v := hrep.1
      have ep : nI 1 + (-1) = nI 0 := pk_m1 0
      have e1 : nI (i + l.1.length) + (1) = nI (i + (l.1.length + (0 + 1))) := nI_1 _
      by_cases hv : v = 0
      · have e : lw F (l :: ls) = lw F ls := by
          simp only [lw]
          rw [if_neg]
          rintro (w | w)
          · exact q w
          · exact w (by rw [hE]; exact hv)
        rw [e]
        have hend := s_X6_endOfLine (J := J) hC (I0 := I1) (by rw [hI1 2 (by decide)]; exact hn) (fun k t hk => by rw [hI1 3 (by decide)]; exact hc k t hk) (l.2.length + 1) (i + l.1.length) (-63 :: l.2) rfl (fun k t hk => by
          cases k with
          | zero => cases hk; exact ⟨hq, by decide⟩
          | succ k =>
            have hk : l.2[k]? = some t := hk
            refine ⟨?_, tok_not59 (o2.2 t (List.mem_of_getElem? hk))⟩
            have := hB3 k t hk
            rw [show i + l.1.length + (k + 1) = i + (l.1.length + (0 + 1)) + k by omega]
            exact this) (by
          have := hB4 0 _ rfl
          rw [List.length_cons, show i + l.1.length + (l.2.length + 1) = i + (l.1.length + (0 + 1)) + l.2.length + 0 by omega]
          exact this)
        have sp : SpecF 0 M_X6_endOfLine [.ref 2, .int (nI (i + l.1.length))] xG1 I1 J (some (.int (nI (i + l.1.length + (-63 :: l.2).length)))) I1 J := by
          refine specF_of (L := [some (.ref 2), some (.int (nI (i + l.1.length))), none]) (by decide) (Nat.le_of_ble_eq_true rfl) rfl ?_
          exact iX6_endOfLine_0 (iX6_endOfLine_1 (hend _))
        have e2 : nI (i + l.1.length + (-63 :: l.2).length) + (1) = nI (i + (l.1.length + (0 + 1)) + (l.2.length + (0 + 1))) := by
          rw [List.length_cons, show i + (l.1.length + (0 + 1)) + (l.2.length + (0 + 1)) = i + l.1.length + (l.2.length + 1) + 1 by omega]
          exact nI_1 _
        refine iX6_written_4 (iX6_written_5 (iX6_written_6 (iX6_written_9 (fun h9 => absurd h9 (t9)) (fun h9 => ?_))))
        refine iX6_written_12 (iX6_written_13 (iX6_written_14 (iX6_written_17 (iX6_written_18 (fun h18 => absurd h18 ((by decide))) (fun h18 => ?_)))))
        refine iX6_written_21 (iX6_written_22 (iX6_written_25 (iX6_written_26 (vp_in_nI (by omega) (by omega)) ?_)))
        rw [nI_clamp (by omega), f3]
        refine iX6_written_27 (iX6_written_28 (iX6_written_29 (iX6_written_30 (fun h30 => ?_) (fun h30 => absurd ((by decide : (0 : Int32) < -(-63))) (by first | exact h30 | exact fun q => q h30)))))
        refine iX6_written_51 (iX6_written_52 (iX6_written_53 (iX6_written_56 (iX6_written_57 (fun h57 => ?_) (fun h57 => absurd ((by decide : (6 : Int32) < -(-63))) (by first | exact h57 | exact fun q => q h57))))))
        refine iX6_written_80 (iX6_written_81 (iX6_written_82 (fun h82 => ?_) (fun h82 => absurd ((by decide : (1 : Int32) ≤ nI 1)) (by first | exact h82 | exact fun q => q h82))))
        refine iX6_written_87 (iX6_written_88 (iX6_written_90 (fun h90 => ?_) (fun h90 => absurd ((by decide : ¬ -(-63 : Int32) = 59)) (by first | exact h90 | exact fun q => q h90))))
        refine iX6_written_102 (iX6_written_103 (iX6_written_105 (fun h105 => absurd h105 ((fun w => w (by decide : -(-63 : Int32) = 63)))) (fun h105 => ?_)))
        refine iX6_written_108 ?_
        rw [ep]
        refine iX6_written_111 (iX6_written_112 (iX6_written_115 (iX6_written_116 (vp_in_nI (by omega) (by omega)) ?_)))
        rw [nI_clamp (by omega), f5]
        refine iX6_written_117 (fun h117 => absurd h117 ((fun w => w hv))) (fun h117 => ?_)
        refine iX6_written_120 (iX6_written_121 (iX6_written_122 sp (iX6_written_125 (iX6_written_126 (iX6_written_224 (iX6_written_227 ?_))))))
        rw [e2]
        exact ih _ hok' hB2 (by omega) I1 hI1 _
      · have e : lw F (l :: ls) = (ev F l.2 []).headD 0 := by
          simp only [lw]
          exact if_pos (Or.inr (by rw [hE]; exact hv))
        rw [e]
        refine iX6_written_4 (iX6_written_5 (iX6_written_6 (iX6_written_9 (fun h9 => absurd h9 (t9)) (fun h9 => ?_))))
        refine iX6_written_12 (iX6_written_13 (iX6_written_14 (iX6_written_17 (iX6_written_18 (fun h18 => absurd h18 ((by decide))) (fun h18 => ?_)))))
        refine iX6_written_21 (iX6_written_22 (iX6_written_25 (iX6_written_26 (vp_in_nI (by omega) (by omega)) ?_)))
        rw [nI_clamp (by omega), f3]
        refine iX6_written_27 (iX6_written_28 (iX6_written_29 (iX6_written_30 (fun h30 => ?_) (fun h30 => absurd ((by decide : (0 : Int32) < -(-63))) (by first | exact h30 | exact fun q => q h30)))))
        refine iX6_written_51 (iX6_written_52 (iX6_written_53 (iX6_written_56 (iX6_written_57 (fun h57 => ?_) (fun h57 => absurd ((by decide : (6 : Int32) < -(-63))) (by first | exact h57 | exact fun q => q h57))))))
        refine iX6_written_80 (iX6_written_81 (iX6_written_82 (fun h82 => ?_) (fun h82 => absurd ((by decide : (1 : Int32) ≤ nI 1)) (by first | exact h82 | exact fun q => q h82))))
        refine iX6_written_87 (iX6_written_88 (iX6_written_90 (fun h90 => ?_) (fun h90 => absurd ((by decide : ¬ -(-63 : Int32) = 59)) (by first | exact h90 | exact fun q => q h90))))
        refine iX6_written_102 (iX6_written_103 (iX6_written_105 (fun h105 => absurd h105 ((fun w => w (by decide : -(-63 : Int32) = 63)))) (fun h105 => ?_)))
        refine iX6_written_108 ?_
        rw [ep]
        refine iX6_written_111 (iX6_written_112 (iX6_written_115 (iX6_written_116 (vp_in_nI (by omega) (by omega)) ?_)))
        rw [nI_clamp (by omega), f5]
        refine iX6_written_117 (fun h117 => ?_) (fun h117 => absurd (hv) (by first | exact h117 | exact fun q => q h117))
        refine iX6_written_224 (iX6_written_227 ?_)
        rw [e1]
        exact c_value hC hn hc hF o2 hB3 (hB4 0 _ rfl) hI1 _
/-- what the tape's text gives -/
def lwIs (I : xI) (ls : lwT) : Prop := ls ≠ [] ∧ (∀ l ∈ ls, (l.1 = [] ∨ okE l.1) ∧ okE l.2) ∧ (lwClass ls).length ≤ 121 ∧ I 2 3 = nI (lwClass ls).length ∧ (∀ (k : Nat) (t : Int32), (lwClass ls)[k]? = some t → I 3 k = t) ∧ I 57 29 = 1 ∧ (lwModel ls).length ≤ 130 ∧ ls.length ≤ 61 ∧ I 72 0 = nI ls.length ∧ (∀ (k : Nat) (t : Int32), (lwModel ls)[k]? = some t → I 70 k = mAct t ∧ I 71 k = mWith t) ∧ ∀ (j : Nat) (l : List Int32 × List Int32), ls[j]? = some l → I 73 j = nI (lwStart ls j + l.1.length) ∧ I 74 j = nI (lwStart ls j + l.1.length + l.2.length)
theorem s_X6_written {I : xI} {ls : lwT} (h : lwIs I ls) {F : Nat → Int32} (hF : ∀ j : Nat, j < 6 → I 4 j = F j) : Spec 5 (1000000, 0, 0) M_X6_written [.ref 2] xG1 I J (fun r g I2 J2 => r = some (.int (lw F ls)) ∧ g = xG1 ∧ xFr [5] I I2 ∧ J2 = J) := by
  obtain ⟨h0, h1, h2, h3, h4, -⟩ := h
  refine spec_of (L := [some (.ref 2), none, none, none]) (by decide) (Nat.le_of_ble_eq_true rfl) rfl ?_
  refine iX6_written_0 (iX6_written_1 (iX6_written_2 (iX6_written_3 ?_)))
  exact c_lines (C := lwClass ls) h2 h3 h4 hF ls 0 h1 (fun k t hk => by rw [Nat.zero_add]; exact hk) (by omega) I xFr.rf _
end
