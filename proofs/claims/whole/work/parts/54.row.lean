/-! ===== a row of bytes on a shelf, as both read it ===== -/
def xFJ (S : List Nat) (J J' : xJ) : Prop := ∀ a : Nat, a ∉ S → J' a = J a
theorem xFJ.rf {S : List Nat} {J : xJ} : xFJ S J J := fun _ _ => rfl
theorem xFJ.tr {S : List Nat} {J J1 J2 : xJ} (h : xFJ S J J1) (h2 : xFJ S J1 J2) : xFJ S J J2 := fun a ha => (h2 a ha).trans (h a ha)
theorem xFJ.up {S : List Nat} {J J1 : xJ} {a j : Nat} {v : Int64} (h : xFJ S J J1) (ha : a ∈ S) : xFJ S J (xu J1 a j v) := fun b hb => by
  rw [xu_rowf (fun q => hb (by rw [q]; exact ha))]
  exact h b hb
theorem Fj.of {S : List Nat} {J J1 : xJ} (h : xFJ S J J1) (hs : ∀ a ∈ S, a ∈ scrJ) : Fj J J1 := fun a ha => h a (fun q => ha (hs a q))
def Rw (I : xI) (J : xJ) (k L : Nat) (Bf : Nat → Int32) : Prop := k < 6 ∧ I (45 + 2 * k) 1 = 2 ∧ I (45 + 2 * k) 3 = 0 ∧ I (45 + 2 * k) 4 = nI L ∧ L ≤ 60 ∧ I 87 k = -2 ∧ I 88 k = nI L ∧ ∀ j : Nat, j < 60 → (J (46 + 2 * k) j).toInt32 = Bf j ∧ (J 89 (60 * k + j)).toInt32 = Bf j
theorem Rw.fr {I I' : xI} {J J' : xJ} {k L : Nat} {Bf : Nat → Int32} (h : Rw I J k L Bf) (f : Fq I I') (j : Fj J J') : Rw I' J' k L Bf := by
  obtain ⟨h0, h1, h2, h3, h4, h5, h6, h7⟩ := h
  have e1 : I' (45 + 2 * k) = I (45 + 2 * k) := f.1 _ (by simp only [scrI, List.mem_cons, List.not_mem_nil, or_false]; omega) (by omega)
  have e2 : J' (46 + 2 * k) = J (46 + 2 * k) := j _ (by simp only [scrJ, List.mem_cons, List.not_mem_nil, or_false]; omega)
  unfold Rw
  rw [e1, e2, f.1 87 (by decide) (by decide), f.1 88 (by decide) (by decide), j 89 (by decide)]
  exact ⟨h0, h1, h2, h3, h4, h5, h6, h7⟩
theorem Rw.of {I : xI} {J : xJ} {k : Nat} (h : Inv I J) (hk : k < 6) (q : f_refB I (45 + 2 * k) = 0) : ∃ L Bf, Rw I J k L Bf := by
  obtain ⟨hh, hb, hse, hin, hch, hta, hle, him, hcl, hsh, hlw⟩ := h
  unfold f_refB at q
  rcases hsh k hk with a | a | a
  · rw [if_pos a.1] at q; exact absurd q (by decide)
  · rw [a.1, if_neg (by decide), if_neg (by rintro ⟨w, -⟩; exact absurd w (by decide))] at q
    exact absurd q (by decide)
  · obtain ⟨a1, a2, a3, a4, a5, a6, a7, a8⟩ := a
    have e3 : I (45 + 2 * k) 3 = 0 := by
      rw [a1, if_neg (by decide)] at q
      by_cases w : I (45 + 2 * k) 3 = 0
      · exact w
      · rw [if_neg (fun z => w z.2)] at q; exact absurd q (by decide)
    obtain ⟨L, hL, eL⟩ := nI_of2 (x := I (45 + 2 * k) 4) (M := 60) (n := 60) (by decide) (by grind) a7
    exact ⟨L, fun j => (J (46 + 2 * k) j).toInt32, hk, a1, e3, eL, hL, by rw [a2, e3]; rfl, a5.trans eL, fun j hj => ⟨rfl, by rw [a8 j hj]⟩⟩
theorem refB_cases {I : xI} {a : Nat} : f_refB I a = 0 ∨ f_refB I a = -11 ∨ f_refB I a = -12 := by
  unfold f_refB
  grind
theorem refB_fr {I I' : xI} {k : Nat} (hk : k < 6) (f : Fq I I') : f_refB I' (45 + 2 * k) = f_refB I (45 + 2 * k) := by
  have e1 : I' (45 + 2 * k) = I (45 + 2 * k) := f.1 _ (by simp only [scrI, List.mem_cons, List.not_mem_nil, or_false]; omega) (by omega)
  unfold f_refB
  rw [e1]
section
variable {I : xI} {J : xJ} {k L : Nat} {Bf : Nat → Int32}
theorem shelf_of {s : Int32} (h : ¬ f_in s 0 5 = 0) : ∃ k : Nat, k < 6 ∧ s = nI k := by
  have := f_in_p h
  obtain ⟨k, hk, rfl⟩ := nI_of2 (x := s) (M := 5) (n := 5) (by decide) (by grind) this.2
  exact ⟨k, by omega, rfl⟩
theorem s_X12_rowFault (h : Inv I J) (hk : k < 6) : SpecF 1 M_X12_rowFault [.ref 57, .int (nI k)] xG1 I J (some (.int (f_refB I (45 + 2 * k)))) I J := by
  obtain ⟨hh, hb, hse, hin, hch, hta, hle, him, hcl, hsh, hlw⟩ := h
  have hs := hsh k hk
  refine specF_of (L := [some (.ref 57), some (.int (nI k))]) (by decide) (Nat.le_of_ble_eq_true rfl) rfl ?_
  have e : (nI k).toNatClampNeg = k := nI_clamp (by omega)
  refine iX12_rowFault_0 (iX12_rowFault_1 (iX12_rowFault_4 (iX12_rowFault_5 (vp_in_nI (by omega) (by omega)) (iX12_rowFault_6 (iX12_rowFault_7 (fun h7 => ?_) (fun h7 => ?_))))))
  · refine iX12_rowFault_15 (iX12_rowFault_16 (iX12_rowFault_19 (iX12_rowFault_20 (vp_in_nI (by omega) (by omega)) (iX12_rowFault_21 (iX12_rowFault_23 (fun h23 => ?_) (fun h23 => ?_))))))
    · refine iX12_rowFault_30 (iX12_rowFault_32 ?_)
      refine ⟨congrArg (fun z => some (Value.int z)) ?_, rfl, rfl, rfl⟩
      rw [e] at *
      unfold f_refB
      unfold shRel at hs
      grind
    · refine iX12_rowFault_26 (iX12_rowFault_27 (iX12_rowFault_32 ?_))
      refine ⟨congrArg (fun z => some (Value.int z)) ?_, rfl, rfl, rfl⟩
      rw [e] at *
      unfold f_refB
      unfold shRel at hs
      grind
  · refine iX12_rowFault_10 (iX12_rowFault_12 (iX12_rowFault_32 ?_))
    refine ⟨congrArg (fun z => some (Value.int z)) ?_, rfl, rfl, rfl⟩
    rw [e] at *
    unfold f_refB
    unfold shRel at hs
    grind
/-- the byte at a place; -1 where there is none -/
def bN (Bf : Nat → Int32) (L x : Nat) : Int32 := if x < L then Bf x else -1
theorem f_byte_N (h : Rw I J k L Bf) {x : Nat} (hx : x < 1000) : f_byte I J (45 + 2 * k) (46 + 2 * k) (nI x) = bN Bf L x := by
  obtain ⟨h0, h1, h2, h3, h4, h5, h6, h7⟩ := h
  rw [f_byte_B h1 h2 (by rw [h3]; exact nI_pos' (by omega)), h3]
  unfold bB bN
  rw [nI_clamp (by omega)]
  have e1 : nI x < nI L ↔ x < L := nI_ltI (by omega) (by omega)
  by_cases q : x < L
  · rw [if_pos ⟨nI_pos' (by omega), e1.mpr q⟩, if_pos q]
    exact (h7 x (by omega)).1
  · rw [if_neg (fun w => q (e1.mp w.2)), if_neg q]
theorem s_byteN (h : Rw I J k L Bf) {x : Nat} (hx : x < 1000) : SpecF 2 M_X9_byteAt [.ref (45 + 2 * k), .int (nI x)] xG1 I J (some (.int (bN Bf L x))) I J := by
  have hL60 : I (45 + 2 * k) 1 = 2 → I (45 + 2 * k) 4 ≤ 60 := fun _ => by rw [h.2.2.2.1]; exact nI_le (b := 60) h.2.2.2.2.1 (by omega)
  have := s_X9_byteAt (I := I) (J := J) (nI x) (xSh_at h.1) hL60
  rw [f_byte_N h hx] at this
  exact this
theorem s_atN (h : Rw I J k L Bf) {x : Nat} (hx : x < 60) : SpecF 0 M_X12_at [.ref 57, .int (nI k), .int (nI x)] xG1 I J (some (.int (Bf x))) I J := by
  have h0 := h.1
  have e : (60 : Int32) * nI k + nI x = nI (60 * k + x) := by rw [show (60 : Int32) * nI k = nI (60 * k) from pk_mul 60 k, nI_add]
  have h7 := (h.2.2.2.2.2.2.2 x hx).2
  refine specF_of (L := [some (.ref 57), some (.int (nI k)), some (.int (nI x))]) (by decide) (Nat.le_of_ble_eq_true rfl) rfl ?_
  refine iX12_at_0 (iX12_at_1 (iX12_at_4 (iX12_at_6 (iX12_at_7 (iX12_at_8 (iX12_at_9 ?_))))))
  rw [e]
  refine iX12_at_10 (vp_in_nI (by omega) (by omega)) ?_
  rw [nI_clamp (by omega)]
  refine iX12_at_11 (iX12_at_12 ?_)
  exact ⟨congrArg (fun z => some (Value.int z)) h7, rfl, rfl, rfl⟩
end
