/-! ===== in how many of twelve it cries ===== -/
def scrI : List Nat := [4, 5, 25, 26, 28, 29, 30, 31, 34, 35, 36, 75, 76, 77, 80]
def scrJ : List Nat := [27, 29, 33, 57, 78, 79, 81]
def Fq (I I' : xI) : Prop := (∀ a : Nat, a ∉ scrI → a ≠ 57 → I' a = I a) ∧ ∀ k : Nat, k ≠ 31 → k ≠ 38 → I' 57 k = I 57 k
def Fj (J J' : xJ) : Prop := ∀ a : Nat, a ∉ scrJ → J' a = J a
theorem Fq.rf {I : xI} : Fq I I := ⟨fun _ _ _ => rfl, fun _ _ _ => rfl⟩
theorem Fq.tr {I I1 I2 : xI} (h : Fq I I1) (h2 : Fq I1 I2) : Fq I I2 := ⟨fun a h3 h4 => (h2.1 a h3 h4).trans (h.1 a h3 h4), fun k h3 h4 => (h2.2 k h3 h4).trans (h.2 k h3 h4)⟩
theorem Fq.of {I I1 : xI} {S : List Nat} (h : xFr S I I1) (hs : ∀ a ∈ S, a ∈ scrI) : Fq I I1 := ⟨fun a ha _ => h a (fun q => ha (hs a q)), fun k _ _ => by rw [h 57 (fun q => absurd (hs 57 q) (by decide))]⟩
theorem Fq.up {I I1 : xI} {a j : Nat} {v : Int32} (h : Fq I I1) (ha : a ∈ scrI) : Fq I (xu I1 a j v) := h.tr (Fq.of (S := [a]) (xFr.rf.up List.mem_cons_self) (fun b hb => by simp at hb; rw [hb]; exact ha))
theorem Fq.upk {I I1 : xI} {j : Nat} {v : Int32} (h : Fq I I1) (hj : j = 31 ∨ j = 38) : Fq I (xu I1 57 j v) := ⟨fun a ha h57 => by rw [xu_rowf h57]; exact h.1 a ha h57, fun k h1 h2 => by rw [xu_col (by omega)]; exact h.2 k h1 h2⟩
theorem Fj.rf {J : xJ} : Fj J J := fun _ _ => rfl
theorem Fj.tr {J J1 J2 : xJ} (h : Fj J J1) (h2 : Fj J1 J2) : Fj J J2 := fun a ha => (h2 a ha).trans (h a ha)
theorem Fj.up {J J1 : xJ} {a j : Nat} {v : Int64} (h : Fj J J1) (ha : a ∈ scrJ) : Fj J (xu J1 a j v) := fun b hb => by
  rw [xu_rowf (fun q => hb (by rw [q]; exact ha))]
  exact h b hb
theorem Fj.xf {J J1 : xJ} {e N : Nat} {v : Int64} (h : Fj J J1) (ha : e ∈ scrJ) : Fj J (xf J1 e N v) := fun b hb => by
  rw [xf_row (fun q => hb (by rw [q]; exact ha))]
  exact h b hb
theorem f_has_fr {I I' : xI} (h : Fq I I') (n w : Int32) : f_has I' n w = f_has I n w := by
  unfold f_has
  rw [h.1 1 (by decide) (by decide)]
theorem lwIs_fr {I I' : xI} {ls : lwT} (h : Fq I I') (hl : lwIs I ls) : lwIs I' ls := by
  unfold lwIs at hl ⊢
  rw [h.1 2 (by decide) (by decide), h.1 3 (by decide) (by decide), h.2 29 (by decide) (by decide), h.1 70 (by decide) (by decide), h.1 71 (by decide) (by decide), h.1 72 (by decide) (by decide), h.1 73 (by decide) (by decide), h.1 74 (by decide) (by decide)]
  exact hl
theorem inv_scr {I I' : xI} {J J' : xJ} (h : Inv I J) (f : Fq I I') (j : Fj J J') : Inv I' J' := by
  obtain ⟨hh, hb, hse, hin, hch, hta, hle, him, hcl, hsh, hlw⟩ := h
  refine ⟨?_, ?_, ?_, ?_, ?_, ?_, ?_, ?_, ?_, ?_, ?_⟩
  · unfold ivHouse at hh ⊢
    rw [f.1 1 (by decide) (by decide), f.2 1 (by decide) (by decide), f.2 6 (by decide) (by decide)]
    exact hh
  · unfold ivBills at hb ⊢
    rw [f.1 58 (by decide) (by decide), f.1 59 (by decide) (by decide), f.1 60 (by decide) (by decide), f.1 61 (by decide) (by decide), f.1 7 (by decide) (by decide), f.1 8 (by decide) (by decide), f.1 9 (by decide) (by decide), f.1 10 (by decide) (by decide)]
    exact hb
  · unfold ivSens at hse ⊢
    rw [f.1 62 (by decide) (by decide), f.1 63 (by decide) (by decide), f.1 11 (by decide) (by decide), f.1 12 (by decide) (by decide)]
    exact hse
  · unfold ivInf at hin ⊢
    rw [f.1 64 (by decide) (by decide), f.1 13 (by decide) (by decide), f.1 14 (by decide) (by decide), f.1 15 (by decide) (by decide), f.1 16 (by decide) (by decide)]
    exact hin
  · exact ivChg_frame hch ⟨f.1 20 (by decide) (by decide), f.1 21 (by decide) (by decide), f.1 22 (by decide) (by decide), f.1 23 (by decide) (by decide), f.1 24 (by decide) (by decide), f.1 65 (by decide) (by decide), f.1 66 (by decide) (by decide), f.1 67 (by decide) (by decide), f.1 68 (by decide) (by decide)⟩ (f.2 10 (by decide) (by decide)) (f.2 11 (by decide) (by decide)) (by rw [f.1 1 (by decide) (by decide)]; exact Int32.le_refl _) (by rw [f.1 1 (by decide) (by decide)]; exact Int32.le_refl _)
  · unfold ivTape at hta ⊢
    rw [f.1 17 (by decide) (by decide), f.1 18 (by decide) (by decide), f.1 69 (by decide) (by decide), f.2 17 (by decide) (by decide)]
    exact hta
  · unfold ivLed at hle ⊢
    rw [f.1 82 (by decide) (by decide), f.1 38 (by decide) (by decide)]
    exact hle
  · unfold ivImg at him ⊢
    rw [f.1 37 (by decide) (by decide), f.1 39 (by decide) (by decide), f.1 40 (by decide) (by decide), f.1 83 (by decide) (by decide), f.1 84 (by decide) (by decide), f.2 42 (by decide) (by decide)]
    exact him
  · unfold ivCl at hcl ⊢
    rw [f.1 41 (by decide) (by decide), f.1 42 (by decide) (by decide), f.1 43 (by decide) (by decide), f.1 85 (by decide) (by decide), f.1 86 (by decide) (by decide), f.2 45 (by decide) (by decide), f.2 47 (by decide) (by decide)]
    exact hcl
  · refine ivSh_frame hsh (fun s hs => f.1 _ ?_ (by omega)) (f.1 87 (by decide) (by decide)) (f.1 88 (by decide) (by decide)) (by rw [f.1 41 (by decide) (by decide)]; exact Int32.le_refl _) (fun s hs => j _ ?_) (j 89 (by decide))
    · simp only [scrI, List.mem_cons, List.not_mem_nil, or_false]; omega
    · simp only [scrJ, List.mem_cons, List.not_mem_nil, or_false]; omega
  · exact ivLaw_frame hlw ⟨by rw [f.1 2 (by decide) (by decide)], f.1 3 (by decide) (by decide), f.2 29 (by decide) (by decide), f.1 70 (by decide) (by decide), f.1 71 (by decide) (by decide), by rw [f.1 72 (by decide) (by decide)], f.1 73 (by decide) (by decide), f.1 74 (by decide) (by decide)⟩
/-- what a reading stands on -/
def Wd (I : xI) (nB nS : Nat) (ls : lwT) : Prop := I 1 2 = nI nB ∧ nB ≤ 10 ∧ I 1 3 = nI nS ∧ nS ≤ 6 ∧ I 57 1 = nI nB ∧ I 57 6 = nI nS ∧ ivBills I ∧ ivSens I ∧ ivInf I ∧ (ls = [] ∧ I 2 3 = 0 ∧ I 57 29 = 0 ∨ lwIs I ls)
theorem Wd.of {I : xI} {J : xJ} (h : Inv I J) : ∃ nB nS ls, Wd I nB nS ls := by
  obtain ⟨hh, hb, hse, hin, hch, hta, hle, him, hcl, hsh, hlw⟩ := h
  obtain ⟨a1, a2, a3, a4, a5, a6⟩ := hh
  obtain ⟨nB, b1, b2⟩ := nI_of2 (x := I 1 2) (M := 10) (n := 10) (by decide) (by grind) a4
  obtain ⟨nS, c1, c2⟩ := nI_of2 (x := I 1 3) (M := 6) (n := 6) (by decide) (by grind) a6
  rcases hlw with ⟨l1, l2⟩ | ⟨ls, l⟩
  · exact ⟨nB, nS, [], b2, b1, c2, c1, a1.trans b2, a2.trans c2, hb, hse, hin, Or.inl ⟨rfl, l1, l2⟩⟩
  · exact ⟨nB, nS, ls, b2, b1, c2, c1, a1.trans b2, a2.trans c2, hb, hse, hin, Or.inr l⟩
theorem Wd.fr {I I' : xI} {nB nS : Nat} {ls : lwT} (h : Wd I nB nS ls) (f : Fq I I') : Wd I' nB nS ls := by
  obtain ⟨a1, a2, a3, a4, a5, a6, hb, hse, hin, hl⟩ := h
  refine ⟨by rw [f.1 1 (by decide) (by decide)]; exact a1, a2, by rw [f.1 1 (by decide) (by decide)]; exact a3, a4, by rw [f.2 1 (by decide) (by decide)]; exact a5, by rw [f.2 6 (by decide) (by decide)]; exact a6, ?_, ?_, ?_, ?_⟩
  · unfold ivBills at hb ⊢
    rw [f.1 58 (by decide) (by decide), f.1 59 (by decide) (by decide), f.1 60 (by decide) (by decide), f.1 61 (by decide) (by decide), f.1 7 (by decide) (by decide), f.1 8 (by decide) (by decide), f.1 9 (by decide) (by decide), f.1 10 (by decide) (by decide)]
    exact hb
  · unfold ivSens at hse ⊢
    rw [f.1 62 (by decide) (by decide), f.1 63 (by decide) (by decide), f.1 11 (by decide) (by decide), f.1 12 (by decide) (by decide)]
    exact hse
  · unfold ivInf at hin ⊢
    rw [f.1 64 (by decide) (by decide), f.1 13 (by decide) (by decide), f.1 14 (by decide) (by decide), f.1 15 (by decide) (by decide), f.1 16 (by decide) (by decide)]
    exact hin
  · rcases hl with ⟨l1, l2, l3⟩ | l
    · exact Or.inl ⟨l1, by rw [f.1 2 (by decide) (by decide)]; exact l2, by rw [f.2 29 (by decide) (by decide)]; exact l3⟩
    · exact Or.inr (lwIs_fr f l)
theorem Wd.le {I : xI} {nB nS : Nat} {ls : lwT} (h : Wd I nB nS ls) : I 1 2 ≤ 10 ∧ I 1 3 ≤ 6 := ⟨by rw [h.1]; exact nI_le (b := 10) h.2.1 (by omega), by rw [h.2.2.1]; exact nI_le (b := 6) h.2.2.2.1 (by omega)⟩
def clN (x : Int32) : Nat := if x < 0 then 0 else if 12 < x then 12 else x.toNatClampNeg
theorem clN_le (x : Int32) : clN x ≤ 12 := by
  unfold clN
  by_cases h : x < 0
  · rw [if_pos h]; omega
  by_cases h2 : 12 < x
  · rw [if_neg h, if_pos h2]; omega
  · rw [if_neg h, if_neg h2]
    have := clamp_lt' (x := x) (N := 13) (n := 13) (by decide) (by grind) (by grind)
    omega
theorem clN_c (x : Int32) : f_max 0 (f_min 12 x) = nI (clN x) := by
  unfold clN f_max f_min
  by_cases h : x < 0
  · rw [if_pos h, if_pos (show x < 12 by grind), if_neg (by grind)]; rfl
  by_cases h2 : 12 < x
  · rw [if_neg h, if_pos h2, if_neg (show ¬ x < 12 by grind), if_pos (show (0 : Int32) < 12 by decide)]; rfl
  · rw [if_neg h, if_neg h2, clamp_nI (by grind)]
    grind
theorem clN_m1 {x : Int32} (h : x < 0) : nI (clN x) = 0 := by unfold clN; rw [if_pos h]; rfl
theorem clN_m2 {x : Int32} (h : ¬ x < 0) (h2 : 12 < x) : nI (clN x) = 12 := by unfold clN; rw [if_neg h, if_pos h2]; rfl
theorem clN_m3 {x : Int32} (h : ¬ x < 0) (h2 : ¬ 12 < x) : nI (clN x) = x := by unfold clN; rw [if_neg h, if_neg h2, clamp_nI (by grind)]
def facts (I : xI) (f t w : Int32) (b s : Nat) (j : Nat) : Int32 := if j = 0 then f else if j = 1 then t else if j = 2 then w else if j = 3 then I 11 s else if j = 4 then I 8 b else I 9 b
noncomputable def cyV (I : xI) (ls : lwT) (f t w : Int32) (b s : Nat) : Int32 := if ls = [] then f / 4 + t / 3 + w / 3 + I 11 s / 3 + I 8 b / 3 - 2 else lw (facts I f t w b s) ls
noncomputable def cyN (I : xI) (ls : lwT) (f t w : Int32) (b s : Nat) : Nat := clN (cyV I ls f t w b s)
theorem cyN_le {I : xI} {ls : lwT} {f t w : Int32} {b s : Nat} : cyN I ls f t w b s ≤ 12 := clN_le _
theorem cyN_fr {I I' : xI} (h : Fq I I') {ls : lwT} {f t w : Int32} {b s : Nat} : cyN I' ls f t w b s = cyN I ls f t w b s := by
  unfold cyN cyV
  rw [show facts I' f t w b s = facts I f t w b s from funext fun j => by unfold facts; rw [h.1 11 (by decide) (by decide), h.1 8 (by decide) (by decide), h.1 9 (by decide) (by decide)], h.1 11 (by decide) (by decide), h.1 8 (by decide) (by decide)]
theorem bs_div {b s : Nat} (hb : b < 10) (hs : s < 10) : nI (10 * b + s) / 10 = nI b := (pk_div (d := 10) (by omega) (by omega) (by omega)).trans (by rw [show (10 * b + s) / 10 = b by omega])
theorem bs_rem {b s : Nat} (hb : b < 10) (hs : s < 10) : nI (10 * b + s) - nI b * 10 = nI s := by
  rw [show nI b * 10 = nI (b * 10) from pk_mul b 10, pk_sub (by omega), show 10 * b + s - b * 10 = s by omega]
theorem bs_mk (b s : Nat) : 10 * nI b + nI s = nI (10 * b + s) := by rw [show (10 : Int32) * nI b = nI (10 * b) from pk_mul 10 b, nI_add]
section
variable {I : xI} {J : xJ} {nB nS : Nat} {ls : lwT}
theorem has_b (h : Wd I nB nS ls) {b : Nat} (hb : b < nB) {w : Nat} (hw : w ≤ 3) : f_has I (nI b) (nI w) = 1 := by
  have := h.2.1
  have e1 : ¬ nI b < 0 := nI_pos (by omega)
  have e2 : nI b < nI nB := nI_lt hb (by omega)
  have e3 : ¬ nI w < 0 := nI_pos (by omega)
  have e4 : ¬ 9 < nI w := nI_nlt (b := w) (a := 9) (by omega) (by omega)
  have e5 : nI w ≤ 3 := nI_le (b := 3) (by omega) (by omega)
  unfold f_has
  rw [h.1, if_neg (by grind), if_pos e5, if_pos e2]
theorem has_s (h : Wd I nB nS ls) {s : Nat} (hs : s < nS) {w : Nat} (hw : w = 4 ∨ w = 5) : f_has I (nI s) (nI w) = 1 := by
  have := h.2.2.2.1
  have e1 : ¬ nI s < 0 := nI_pos (by omega)
  have e2 : nI s < nI nS := nI_lt hs (by omega)
  have e3 : ¬ nI w < 0 := nI_pos (by omega)
  have e4 : ¬ 9 < nI w := nI_nlt (b := w) (a := 9) (by omega) (by omega)
  have e5 : ¬ nI w ≤ 3 := nI_ge (a := 3) (b := w) (by omega) (by omega)
  have e6 : nI w ≤ 5 := nI_le (b := 5) (by omega) (by omega)
  unfold f_has
  rw [h.2.2.1, if_neg (by grind), if_neg e5, if_pos e6, if_pos e2]
theorem get_b (h : Wd I nB nS ls) {b : Nat} (hb : b < nB) {w : Nat} (hw : w ≤ 3) : f_get I (nI b) (nI w) = I (7 + w) b := by
  have := h.2.1
  rw [f_get_1 (has_b h hb hw), nI_clamp (by omega), nI_clamp (by omega)]
theorem get_s (h : Wd I nB nS ls) {s : Nat} (hs : s < nS) {w : Nat} (hw : w = 4 ∨ w = 5) : f_get I (nI s) (nI w) = I (7 + w) s := by
  have := h.2.2.2.1
  rw [f_get_1 (has_s h hs hw), nI_clamp (by omega), nI_clamp (by omega)]
def g_tell (I : xI) (f t w r s m : Int32) : xI := xu (xu (xu (xu (xu (xu I 4 0 f) 4 1 t) 4 2 w) 4 3 r) 4 4 s) 4 5 m
theorem s_X6_tell (f t w r s m : Int32) : SpecF 0 M_X6_tell [.ref 2, .int f, .int t, .int w, .int r, .int s, .int m] xG1 I J none (g_tell I f t w r s m) J := by
  refine specF_of (L := [some (.ref 2), some (.int f), some (.int t), some (.int w), some (.int r), some (.int s), some (.int m)]) (by decide) (Nat.le_of_ble_eq_true rfl) rfl ?_
  refine iX6_tell_0 (iX6_tell_1 (iX6_tell_4 (iX6_tell_5 (iX6_tell_6 (vin 6 (by decide) (by decide) (by decide)) (iX6_tell_7 (iX6_tell_8 (iX6_tell_11 (iX6_tell_12 (iX6_tell_13 (vin 6 (by decide) (by decide) (by decide)) (iX6_tell_14 (iX6_tell_15 (iX6_tell_18 (iX6_tell_19 (iX6_tell_20 (vin 6 (by decide) (by decide) (by decide)) (iX6_tell_21 (iX6_tell_22 (iX6_tell_25 (iX6_tell_26 (iX6_tell_28 (vin 6 (by decide) (by decide) (by decide)) (iX6_tell_29 (iX6_tell_30 (iX6_tell_33 (iX6_tell_34 (iX6_tell_36 (vin 6 (by decide) (by decide) (by decide)) (iX6_tell_37 (iX6_tell_38 (iX6_tell_41 (iX6_tell_42 (iX6_tell_44 (vin 6 (by decide) (by decide) (by decide)) (iX6_tell_45 ?_))))))))))))))))))))))))))))))
  exact ⟨rfl, rfl, rfl, rfl⟩
theorem tell_fr {f t w r s m : Int32} : xFr [4] I (g_tell I f t w r s m) := (((((xFr.rf.up (by decide)).up (by decide)).up (by decide)).up (by decide)).up (by decide)).up (by decide)
theorem s_X6_isWritten : SpecF 0 M_X6_isWritten [.ref 2] xG1 I J (some (.int (if 0 < I 2 3 then 1 else 0))) I J := by
  refine specF_of (L := [some (.ref 2)]) (by decide) (Nat.le_of_ble_eq_true rfl) rfl ?_
  refine iX6_isWritten_0 (iX6_isWritten_1 (iX6_isWritten_4 (fun h4 => ?_) (fun h4 => ?_)))
  · refine iX6_isWritten_11 (iX6_isWritten_12 ?_)
    refine ⟨congrArg (fun z => some (Value.int z)) ?_, rfl, rfl, rfl⟩
    grind
  · refine iX6_isWritten_7 (iX6_isWritten_8 (iX6_isWritten_12 ?_))
    refine ⟨congrArg (fun z => some (Value.int z)) ?_, rfl, rfl, rfl⟩
    grind
theorem s_X6_unwritten : SpecF 0 M_X6_unwritten [.ref 2] xG1 I J (some (.int (I 4 0 / 4 + I 4 1 / 3 + I 4 2 / 3 + I 4 3 / 3 + I 4 4 / 3 - 2))) I J := by
  refine specF_of (L := [some (.ref 2)]) (by decide) (Nat.le_of_ble_eq_true rfl) rfl ?_
  refine iX6_unwritten_0 (iX6_unwritten_1 (iX6_unwritten_4 (iX6_unwritten_5 (vin 6 (by decide) (by decide) (by decide)) (iX6_unwritten_6 (iX6_unwritten_7 (by decide) (iX6_unwritten_8 (iX6_unwritten_9 (iX6_unwritten_12 (iX6_unwritten_13 (vin 6 (by decide) (by decide) (by decide)) (iX6_unwritten_14 (iX6_unwritten_15 (by decide) (iX6_unwritten_16 (iX6_unwritten_17 (iX6_unwritten_18 (iX6_unwritten_21 (iX6_unwritten_22 (vin 6 (by decide) (by decide) (by decide)) (iX6_unwritten_23 (iX6_unwritten_24 (by decide) (iX6_unwritten_25 (iX6_unwritten_26 (iX6_unwritten_27 (iX6_unwritten_30 (iX6_unwritten_31 (vin 6 (by decide) (by decide) (by decide)) (iX6_unwritten_32 (iX6_unwritten_33 (by decide) (iX6_unwritten_34 (iX6_unwritten_35 (iX6_unwritten_36 (iX6_unwritten_39 (iX6_unwritten_40 (vin 6 (by decide) (by decide) (by decide)) (iX6_unwritten_41 (iX6_unwritten_42 (by decide) (iX6_unwritten_43 (iX6_unwritten_44 (iX6_unwritten_45 (iX6_unwritten_46 ?_))))))))))))))))))))))))))))))))))))
  exact ⟨rfl, rfl, rfl, rfl⟩
theorem s_X5_crying (h : Wd I nB nS ls) {b s : Nat} (hb : b < nB) (hs : s < nS) (t w f : Int32) : Spec 10 (1000000, 0, 0) M_X5_crying [.ref 1, .int (nI (10 * b + s)), .int t, .int w, .int f] xG1 I J (fun r g I2 J2 => r = some (.int (nI (cyN I ls (f_min 95 (f + I 7 b)) t w b s))) ∧ g = xG1 ∧ xFr [4, 5] I I2 ∧ J2 = J) := by
  obtain ⟨hB, hS⟩ := h.le
  have hb10 : b < 10 := by have := h.2.1; omega
  have hs6 : s < 6 := by have := h.2.2.2.1; omega
  have eb : nI (10 * b + s) / 10 = nI b := bs_div hb10 (by omega)
  have es : nI (10 * b + s) - nI b * 10 = nI s := bs_rem hb10 (by omega)
  have g0 : f_get I (nI b) 0 = I 7 b := get_b h hb (w := 0) (by omega)
  have g1 : f_get I (nI b) 1 = I 8 b := get_b h hb (w := 1) (by omega)
  have g2 : f_get I (nI b) 2 = I 9 b := get_b h hb (w := 2) (by omega)
  have g4 : f_get I (nI s) 4 = I 11 s := get_s h hs (w := 4) (Or.inl rfl)
  refine spec_of (L := [some (.ref 1), some (.int (nI (10 * b + s))), some (.int t), some (.int w), some (.int f), none, none]) (by decide) (Nat.le_of_ble_eq_true rfl) rfl ?_
  generalize hf : f_min 95 (f + I 7 b) = th
  have hT := tell_fr (I := I) (f := th) (t := t) (w := w) (r := I 11 s) (s := I 8 b) (m := I 9 b)
  have hw := h.fr (Fq.of hT (by decide))
  generalize hg : g_tell I th t w (I 11 s) (I 8 b) (I 9 b) = IT at hT hw
  have e20 : IT 4 0 = th := by rw [← hg]; simp [g_tell, xu]
  have e21 : IT 4 1 = t := by rw [← hg]; simp [g_tell, xu]
  have e22 : IT 4 2 = w := by rw [← hg]; simp [g_tell, xu]
  have e23 : IT 4 3 = I 11 s := by rw [← hg]; simp [g_tell, xu]
  have e24 : IT 4 4 = I 8 b := by rw [← hg]; simp [g_tell, xu]
  have e25 : IT 4 5 = I 9 b := by rw [← hg]; simp [g_tell, xu]
  by_cases hl : ls = []
  · have h23 : IT 2 3 = 0 := by
      rcases hw.2.2.2.2.2.2.2.2.2 with q | q
      · exact q.2.1
      · exact absurd hl q.1
    refine iX5_crying_0 (iX5_crying_1 (iX5_crying_3 (by decide) ?_))
    rw [eb]
    refine iX5_crying_4 (iX5_crying_6 (iX5_crying_7 (iX5_crying_9 (iX5_crying_10 (iX5_crying_12 (iX5_crying_13 (s_X5_get (nI b) 0 hB hS) (iX5_crying_16 (s_X5_later _ _) ?_)))))))
    rw [g0, hf]
    refine iX5_crying_19 (iX5_crying_21 (iX5_crying_22 (iX5_crying_25 (iX5_crying_27 (iX5_crying_28 (iX5_crying_29 (iX5_crying_30 (iX5_crying_31 (iX5_crying_33 (by decide) ?_)))))))))
    rw [eb, es]
    refine iX5_crying_34 (iX5_crying_35 (s_X5_get (nI s) 4 hB hS) (iX5_crying_38 (iX5_crying_39 (iX5_crying_41 (iX5_crying_42 (s_X5_get (nI b) 1 hB hS) (iX5_crying_45 (iX5_crying_46 (iX5_crying_48 (iX5_crying_49 (s_X5_get (nI b) 2 hB hS) ?_)))))))))
    rw [g4, g1, g2]
    refine iX5_crying_52 (s_X6_tell _ _ _ _ _ _) ?_
    rw [hg]
    refine iX5_crying_55 (iX5_crying_56 (iX5_crying_58 (iX5_crying_59 (iX5_crying_62 s_X6_isWritten ?_))))
    rw [h23]
    refine iX5_crying_65 (fun h65 => ?_) (fun h65 => by first | exact absurd ((by decide)) h65 | exact absurd h65 ((by decide)))
    refine iX5_crying_78 (iX5_crying_79 (iX5_crying_82 s_X6_unwritten (iX5_crying_85 (s_J9_min _ _) (iX5_crying_88 (s_J9_max _ _) (iX5_crying_91 ?_)))))
    refine ⟨?_, rfl, hT.mono (by decide), rfl⟩
    rw [clN_c, e20, e21, e22, e23, e24]
    unfold cyN cyV
    rw [if_pos hl]
  · have hlw : lwIs IT ls := by
      rcases hw.2.2.2.2.2.2.2.2.2 with q | q
      · exact absurd q.1 hl
      · exact q
    have h23 : 0 < IT 2 3 := by
      obtain ⟨q0, q1, q2, q3, -⟩ := hlw
      rw [q3]
      match ls, q0 with
      | l :: ls, _ =>
        have : 0 < (lwClass (l :: ls)).length := by simp [lwClass]; omega
        exact nI_lt (a := 0) this (by omega)
    have sp := s_X6_written (J := J) hlw (F := facts I th t w b s) (fun j hj => by
      match j, hj with
      | 0, _ => exact e20
      | 1, _ => exact e21
      | 2, _ => exact e22
      | 3, _ => exact e23
      | 4, _ => exact e24
      | 5, _ => exact e25
      | j + 6, hj => omega)
    refine iX5_crying_0 (iX5_crying_1 (iX5_crying_3 (by decide) ?_))
    rw [eb]
    refine iX5_crying_4 (iX5_crying_6 (iX5_crying_7 (iX5_crying_9 (iX5_crying_10 (iX5_crying_12 (iX5_crying_13 (s_X5_get (nI b) 0 hB hS) (iX5_crying_16 (s_X5_later _ _) ?_)))))))
    rw [g0, hf]
    refine iX5_crying_19 (iX5_crying_21 (iX5_crying_22 (iX5_crying_25 (iX5_crying_27 (iX5_crying_28 (iX5_crying_29 (iX5_crying_30 (iX5_crying_31 (iX5_crying_33 (by decide) ?_)))))))))
    rw [eb, es]
    refine iX5_crying_34 (iX5_crying_35 (s_X5_get (nI s) 4 hB hS) (iX5_crying_38 (iX5_crying_39 (iX5_crying_41 (iX5_crying_42 (s_X5_get (nI b) 1 hB hS) (iX5_crying_45 (iX5_crying_46 (iX5_crying_48 (iX5_crying_49 (s_X5_get (nI b) 2 hB hS) ?_)))))))))
    rw [g4, g1, g2]
    refine iX5_crying_52 (s_X6_tell _ _ _ _ _ _) ?_
    rw [hg]
    refine iX5_crying_55 (iX5_crying_56 (iX5_crying_58 (iX5_crying_59 (iX5_crying_62 s_X6_isWritten ?_))))
    rw [if_pos h23]
    refine iX5_crying_65 (fun h65 => absurd h65 ((by decide))) (fun h65 => ?_)
    refine iX5_crying_68 (iX5_crying_69 (jX5_crying_72 sp (fun r72 g72 I72 J72 hq => ?_)))
    obtain ⟨rfl, rfl, hq3, rfl⟩ := hq
    refine iX5_crying_75 (iX5_crying_85 (s_J9_min _ _) (iX5_crying_88 (s_J9_max _ _) (iX5_crying_91 ?_)))
    refine ⟨?_, rfl, (hT.mono (by decide)).tr (hq3.mono (by decide)), rfl⟩
    rw [clN_c]
    unfold cyN cyV
    rw [if_neg hl]
theorem s_X12_sinceWith (h : Wd I nB nS ls) {b : Nat} (hb : b < nB) (f : Int32) : SpecF 1 M_X12_sinceWith [.ref 57, .int f, .int (nI b)] xG1 I J (some (.int (f_min 95 (f + I 7 b)))) I J := by
  have hb10 : b < 10 := by have := h.2.1; omega
  have e58 : I 58 b = I 7 b := (h.2.2.2.2.2.2.1 b hb10).1
  refine specF_of (L := [some (.ref 57), some (.int f), some (.int (nI b))]) (by decide) (Nat.le_of_ble_eq_true rfl) rfl ?_
  refine iX12_sinceWith_0 (iX12_sinceWith_1 (iX12_sinceWith_2 (iX12_sinceWith_5 (iX12_sinceWith_6 (vp_in_nI (by omega) (by omega)) (iX12_sinceWith_7 ?_)))))
  rw [nI_clamp (by omega), e58]
  refine iX12_sinceWith_8 (iX12_sinceWith_10 (fun h10 => ?_) (fun h10 => ?_))
  · refine iX12_sinceWith_18 (iX12_sinceWith_19 (iX12_sinceWith_20 (iX12_sinceWith_23 (iX12_sinceWith_24 (vp_in_nI (by omega) (by omega)) (iX12_sinceWith_25 (iX12_sinceWith_26 ?_))))))
    refine ⟨congrArg (fun z => some (Value.int z)) ?_, rfl, rfl, rfl⟩
    try rw [nI_clamp (by omega), e58]
    unfold f_min
    grind
  · refine iX12_sinceWith_13 (iX12_sinceWith_15 (iX12_sinceWith_26 ?_))
    refine ⟨congrArg (fun z => some (Value.int z)) ?_, rfl, rfl, rfl⟩
    try rw [nI_clamp (by omega), e58]
    unfold f_min
    grind
def g_facts (I : xI) (f t w r s m : Int32) : xI := xu (xu (xu (xu (xu (xu I 75 0 f) 75 1 t) 75 2 w) 75 3 r) 75 4 s) 75 5 m
theorem facts_fr {f t w r s m : Int32} : xFr [75] I (g_facts I f t w r s m) := (((((xFr.rf.up (by decide)).up (by decide)).up (by decide)).up (by decide)).up (by decide)).up (by decide)
theorem s_X12_criesBy (h : Wd I nB nS ls) {b s : Nat} (hb : b < nB) (hs : s < nS) (f t w : Int32) : Spec 10 (1000000, 0, 0) M_X12_criesBy [.ref 57, .int f, .int t, .int w, .int (nI b), .int (nI s)] xG1 I J (fun r g I2 J2 => r = some (.int (nI (cyN I ls f t w b s))) ∧ g = xG1 ∧ xFr [75, 76] I I2 ∧ J2 = J) := by
  have hb10 : b < 10 := by have := h.2.1; omega
  have hs6 : s < 6 := by have := h.2.2.2.1; omega
  obtain ⟨e58, e59, e60, -⟩ := h.2.2.2.2.2.2.1 b hb10
  obtain ⟨e62, -⟩ := h.2.2.2.2.2.2.2.1 s hs6
  refine spec_of (L := [some (.ref 57), some (.int f), some (.int t), some (.int w), some (.int (nI b)), some (.int (nI s)), none]) (by decide) (Nat.le_of_ble_eq_true rfl) rfl ?_
  have tail : ∀ x : Int32, clN x = cyN I ls f t w b s → ∀ I2, xFr [75, 76] I I2 → WP 10 (1000000, 0, 0) none M_X12_criesBy (fun r g I2 J2 => r = some (.int (nI (cyN I ls f t w b s))) ∧ g = xG1 ∧ xFr [75, 76] I I2 ∧ J2 = J) 109 [some (.ref 57), some (.int f), some (.int t), some (.int w), some (.int (nI b)), some (.int (nI s)), some (.int x)] [] xG1 I2 J := by
    intro x hx I2 hI2
    refine iX12_criesBy_109 (iX12_criesBy_111 (fun h111 => ?_) (fun h111 => ?_))
    · refine iX12_criesBy_118 (iX12_criesBy_120 (iX12_criesBy_122 (fun h122 => ?_) (fun h122 => ?_)))
      · refine iX12_criesBy_130 (iX12_criesBy_132 ?_)
        refine ⟨?_, rfl, hI2, rfl⟩
        rw [← hx]
        first | rw [clN_m1 (by grind)] | rw [clN_m2 (by grind) (by grind)] | rw [clN_m3 (by grind) (by grind)]
      · refine iX12_criesBy_125 (iX12_criesBy_127 (iX12_criesBy_132 ?_))
        refine ⟨?_, rfl, hI2, rfl⟩
        rw [← hx]
        first | rw [clN_m1 (by grind)] | rw [clN_m2 (by grind) (by grind)] | rw [clN_m3 (by grind) (by grind)]
    · refine iX12_criesBy_114 (iX12_criesBy_115 (iX12_criesBy_132 ?_))
      refine ⟨?_, rfl, hI2, rfl⟩
      rw [← hx]
      first | rw [clN_m1 (by grind)] | rw [clN_m2 (by grind) (by grind)] | rw [clN_m3 (by grind) (by grind)]
  by_cases hl : ls = []
  · have h29 : I 57 29 = 0 := by
      rcases h.2.2.2.2.2.2.2.2.2 with q | q
      · exact q.2.2
      · exact absurd hl q.1
    refine iX12_criesBy_0 (iX12_criesBy_1 (iX12_criesBy_2 (by decide) (iX12_criesBy_3 (iX12_criesBy_4 (iX12_criesBy_5 (by decide) (iX12_criesBy_6 (iX12_criesBy_7 (iX12_criesBy_8 (iX12_criesBy_9 (by decide) (iX12_criesBy_10 (iX12_criesBy_11 (iX12_criesBy_12 (iX12_criesBy_15 (iX12_criesBy_17 (vp_in_nI (by omega) (by omega)) (iX12_criesBy_18 (iX12_criesBy_19 (by decide) (iX12_criesBy_20 (iX12_criesBy_21 (iX12_criesBy_22 (iX12_criesBy_25 (iX12_criesBy_27 (vp_in_nI (by omega) (by omega)) (iX12_criesBy_28 (iX12_criesBy_29 (by decide) (iX12_criesBy_30 (iX12_criesBy_31 (iX12_criesBy_32 ?_))))))))))))))))))))))))))
    rw [nI_clamp (by omega), nI_clamp (by omega), e62, e59]
    refine iX12_criesBy_33 (iX12_criesBy_35 (iX12_criesBy_36 (iX12_criesBy_39 (fun h39 => ?_) (fun h39 => by first | exact absurd (h29) h39 | exact absurd h39 (h29)))))
    exact tail _ (by unfold cyN cyV; rw [if_pos hl]) I xFr.rf
  · have hlw : lwIs I ls := by
      rcases h.2.2.2.2.2.2.2.2.2 with q | q
      · exact absurd q.1 hl
      · exact q
    have h29 : ¬ I 57 29 = 0 := by
      rw [hlw.2.2.2.2.2.1]; decide
    have hT := facts_fr (I := I) (f := f) (t := t) (w := w) (r := I 11 s) (s := I 8 b) (m := I 9 b)
    have hw := lwIs_fr (Fq.of hT (by decide)) hlw
    generalize hg : g_facts I f t w (I 11 s) (I 8 b) (I 9 b) = IT at hT hw
    have e20 : IT 75 0 = f := by rw [← hg]; simp [g_facts, xu]
    have e21 : IT 75 1 = t := by rw [← hg]; simp [g_facts, xu]
    have e22 : IT 75 2 = w := by rw [← hg]; simp [g_facts, xu]
    have e23 : IT 75 3 = I 11 s := by rw [← hg]; simp [g_facts, xu]
    have e24 : IT 75 4 = I 8 b := by rw [← hg]; simp [g_facts, xu]
    have e25 : IT 75 5 = I 9 b := by rw [← hg]; simp [g_facts, xu]
    have sp := s_X12_gives (J := J) hw (F := facts I f t w b s) (fun j hj => by
      match j, hj with
      | 0, _ => exact e20
      | 1, _ => exact e21
      | 2, _ => exact e22
      | 3, _ => exact e23
      | 4, _ => exact e24
      | 5, _ => exact e25
      | j + 6, hj => omega)
    refine iX12_criesBy_0 (iX12_criesBy_1 (iX12_criesBy_2 (by decide) (iX12_criesBy_3 (iX12_criesBy_4 (iX12_criesBy_5 (by decide) (iX12_criesBy_6 (iX12_criesBy_7 (iX12_criesBy_8 (iX12_criesBy_9 (by decide) (iX12_criesBy_10 (iX12_criesBy_11 (iX12_criesBy_12 (iX12_criesBy_15 (iX12_criesBy_17 (vp_in_nI (by omega) (by omega)) (iX12_criesBy_18 (iX12_criesBy_19 (by decide) (iX12_criesBy_20 (iX12_criesBy_21 (iX12_criesBy_22 (iX12_criesBy_25 (iX12_criesBy_27 (vp_in_nI (by omega) (by omega)) (iX12_criesBy_28 (iX12_criesBy_29 (by decide) (iX12_criesBy_30 (iX12_criesBy_31 (iX12_criesBy_32 ?_))))))))))))))))))))))))))
    rw [nI_clamp (by omega), nI_clamp (by omega), e62, e59]
    refine iX12_criesBy_33 (iX12_criesBy_35 (iX12_criesBy_36 (iX12_criesBy_39 (fun h39 => absurd h39 (h29)) (fun h39 => ?_))))
    refine iX12_criesBy_42 (iX12_criesBy_43 (iX12_criesBy_46 (iX12_criesBy_47 (iX12_criesBy_48 (vin 6 (by decide) (by decide) (by decide)) (iX12_criesBy_49 (iX12_criesBy_50 (iX12_criesBy_53 (iX12_criesBy_54 (iX12_criesBy_55 (vin 6 (by decide) (by decide) (by decide)) (iX12_criesBy_56 (iX12_criesBy_57 (iX12_criesBy_60 (iX12_criesBy_61 (iX12_criesBy_62 (vin 6 (by decide) (by decide) (by decide)) (iX12_criesBy_63 (iX12_criesBy_64 (iX12_criesBy_67 (iX12_criesBy_68 (iX12_criesBy_69 (iX12_criesBy_72 (iX12_criesBy_74 (vp_in_nI (by omega) (by omega)) (iX12_criesBy_75 (vin 6 (by decide) (by decide) (by decide)) (iX12_criesBy_76 (iX12_criesBy_77 (iX12_criesBy_80 (iX12_criesBy_81 (iX12_criesBy_82 (iX12_criesBy_85 (iX12_criesBy_87 (vp_in_nI (by omega) (by omega)) (iX12_criesBy_88 (vin 6 (by decide) (by decide) (by decide)) (iX12_criesBy_89 (iX12_criesBy_90 (iX12_criesBy_93 (iX12_criesBy_94 (iX12_criesBy_95 (iX12_criesBy_98 (iX12_criesBy_100 (vp_in_nI (by omega) (by omega)) (iX12_criesBy_101 (vin 6 (by decide) (by decide) (by decide)) ?_))))))))))))))))))))))))))))))))))))))
    have eIT : xu (xu (xu (xu (xu (xu I 75 (0 : Int32).toNatClampNeg f) 75 (1 : Int32).toNatClampNeg t) 75 (2 : Int32).toNatClampNeg w) 75 (3 : Int32).toNatClampNeg (I 62 (nI s).toNatClampNeg)) 75 (4 : Int32).toNatClampNeg (I 59 (nI b).toNatClampNeg)) 75 (5 : Int32).toNatClampNeg (I 60 (nI b).toNatClampNeg) = IT := by rw [← hg, nI_clamp (by omega), nI_clamp (by omega), e62, e59, e60]; rfl
    refine WP_I eIT ?_
    refine iX12_criesBy_102 (iX12_criesBy_103 (jX12_criesBy_104 sp (fun r104 g104 I104 J104 hq => ?_)))
    obtain ⟨rfl, rfl, hq3, rfl⟩ := hq
    refine iX12_criesBy_107 ?_
    exact tail _ (by unfold cyN cyV; rw [if_neg hl]) _ ((hT.mono (by decide)).tr (hq3.mono (by decide)))
/-- now -/
noncomputable def nxN (I : xI) (ls : lwT) (b s : Nat) : Nat := cyN I ls (f_min 95 (I 15 0 + I 7 b)) (I 13 0) (I 14 0) b s
theorem nxN_fr {I' : xI} (h : Fq I I') {b s : Nat} : nxN I' ls b s = nxN I ls b s := by
  unfold nxN
  rw [cyN_fr h, h.1 15 (by decide) (by decide), h.1 13 (by decide) (by decide), h.1 14 (by decide) (by decide), h.1 7 (by decide) (by decide)]
theorem s_X5_cryingNow (h : Wd I nB nS ls) {b s : Nat} (hb : b < nB) (hs : s < nS) : Spec 11 (1000000, 0, 0) M_X5_cryingNow [.ref 1, .int (nI (10 * b + s))] xG1 I J (fun r g I2 J2 => r = some (.int (nI (nxN I ls b s))) ∧ g = xG1 ∧ xFr [4, 5] I I2 ∧ J2 = J) := by
  obtain ⟨hB, hS⟩ := h.le
  have e6 : f_get I 0 6 = I 13 0 := f_get_its 6 (by omega) (by omega)
  have e7 : f_get I 0 7 = I 14 0 := f_get_its 7 (by omega) (by omega)
  have e8 : f_get I 0 8 = I 15 0 := f_get_its 8 (by omega) (by omega)
  refine spec_of (L := [some (.ref 1), some (.int (nI (10 * b + s)))]) (by decide) (Nat.le_of_ble_eq_true rfl) rfl ?_
  refine iX5_cryingNow_0 (iX5_cryingNow_1 (iX5_cryingNow_2 (iX5_cryingNow_3 (iX5_cryingNow_5 (s_X5_its 6 hB hS) (iX5_cryingNow_8 (iX5_cryingNow_9 (iX5_cryingNow_11 (s_X5_its 7 hB hS) (iX5_cryingNow_14 (iX5_cryingNow_15 (iX5_cryingNow_17 (s_X5_its 8 hB hS) ?_))))))))))
  rw [e6, e7, e8]
  refine jX5_cryingNow_20 (s_X5_crying h hb hs _ _ _) (fun r20 g20 I20 J20 hq => ?_)
  obtain ⟨rfl, rfl, hq3, rfl⟩ := hq
  refine iX5_cryingNow_23 ?_
  exact ⟨rfl, rfl, hq3, rfl⟩
theorem s_X12_nextBy (h : Wd I nB nS ls) {b s : Nat} (hb : b < nB) (hs : s < nS) : Spec 11 (1000000, 0, 0) M_X12_nextBy [.ref 57, .int (nI b), .int (nI s)] xG1 I J (fun r g I2 J2 => r = some (.int (nI (nxN I ls b s))) ∧ g = xG1 ∧ xFr [75, 76] I I2 ∧ J2 = J) := by
  obtain ⟨i0, i1, i2, -⟩ := h.2.2.2.2.2.2.2.2.1
  refine spec_of (L := [some (.ref 57), some (.int (nI b)), some (.int (nI s))]) (by decide) (Nat.le_of_ble_eq_true rfl) rfl ?_
  refine iX12_nextBy_0 (iX12_nextBy_1 (iX12_nextBy_2 (iX12_nextBy_3 (iX12_nextBy_6 (iX12_nextBy_7 (vin 4 (by decide) (by decide) (by decide)) ?_)))))
  rw [show I 64 (2 : Int32).toNatClampNeg = I 15 0 from i2]
  refine iX12_nextBy_8 (iX12_nextBy_9 (s_X12_sinceWith h hb _) (iX12_nextBy_12 (iX12_nextBy_13 (iX12_nextBy_16 (iX12_nextBy_17 (vin 4 (by decide) (by decide) (by decide)) (iX12_nextBy_18 (iX12_nextBy_19 (iX12_nextBy_22 (iX12_nextBy_23 (vin 4 (by decide) (by decide) (by decide)) ?_)))))))))
  rw [show I 64 (0 : Int32).toNatClampNeg = I 13 0 from i0, show I 64 (1 : Int32).toNatClampNeg = I 14 0 from i1]
  refine iX12_nextBy_24 (iX12_nextBy_25 (jX12_nextBy_26 (s_X12_criesBy h hb hs _ _ _) (fun r26 g26 I26 J26 hq => ?_)))
  obtain ⟨rfl, rfl, hq3, rfl⟩ := hq
  refine iX12_nextBy_29 ?_
  exact ⟨rfl, rfl, hq3, rfl⟩
end
