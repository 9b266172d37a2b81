/-! ===== what ties the class's cells to the reference's ===== -/
def ivHouse (I : xI) : Prop := I 57 1 = I 1 2 ∧ I 57 6 = I 1 3 ∧ 0 ≤ I 1 2 ∧ I 1 2 ≤ 10 ∧ 0 ≤ I 1 3 ∧ I 1 3 ≤ 6
def ivBills (I : xI) : Prop := ∀ b : Nat, b < 10 → I 58 b = I 7 b ∧ I 59 b = I 8 b ∧ I 60 b = I 9 b ∧ I 61 b = I 10 b ∧ 0 ≤ I 7 b ∧ I 7 b ≤ 9 ∧ 0 ≤ I 8 b ∧ I 8 b ≤ 9 ∧ 0 ≤ I 9 b ∧ I 9 b ≤ 3 ∧ 0 ≤ I 10 b ∧ I 10 b ≤ 99
def ivSens (I : xI) : Prop := ∀ s : Nat, s < 6 → I 62 s = I 11 s ∧ I 63 s = I 12 s ∧ 0 ≤ I 11 s ∧ I 11 s ≤ 9 ∧ 0 ≤ I 12 s ∧ I 12 s ≤ 2
def ivInf (I : xI) : Prop := I 64 0 = I 13 0 ∧ I 64 1 = I 14 0 ∧ I 64 2 = I 15 0 ∧ I 64 3 = I 16 0 ∧ 0 ≤ I 13 0 ∧ I 13 0 ≤ 9 ∧ 0 ≤ I 14 0 ∧ I 14 0 ≤ 9 ∧ 0 ≤ I 15 0 ∧ I 15 0 ≤ 95
/-- a change that may be laid again: there is such a number, both values may be -/
def mayV (w v : Int32) : Prop := f_may w v = 1 ∨ w = 0 ∧ v = 0
def chOk (I : xI) (n w a b : Int32) : Prop := f_has I n w = 1 ∧ mayV w a ∧ mayV w b
def ivChg (I : xI) : Prop := I 57 10 = I 20 5 ∧ I 57 11 = I 20 6 - I 20 5 ∧ 0 ≤ I 20 5 ∧ I 20 5 ≤ I 20 6 ∧ I 20 6 ≤ 40 ∧ ∀ k : Nat, k < 40 → nI k < I 20 6 → I 65 k = I 22 k ∧ I 66 k = I 21 k ∧ I 67 k = I 23 k ∧ I 68 k = I 24 k ∧ chOk I (I 21 k) (I 22 k) (I 23 k) (I 24 k)
def ivTape (I : xI) : Prop := I 57 17 = I 17 2 ∧ 0 ≤ I 17 2 ∧ I 17 2 ≤ 120 ∧ ∀ k : Nat, k < 120 → 0 ≤ I 18 k ∧ I 18 k ≤ 255 ∧ (nI k < I 17 2 → I 69 k = vp_nar .byte (I 18 k))
def ivLed (I : xI) : Prop := ∀ j : Nat, j < 6 → I 82 j = I 38 j
def ivImg (I : xI) : Prop := I 57 42 = I 37 4 ∧ (I 37 4 = 0 ∨ I 37 4 = 1) ∧ (∀ k : Nat, k < 4 → I 83 k = I 40 k) ∧ (∀ j : Nat, j < 6 → I 84 j = I 39 j) ∧ 0 ≤ I 40 0 ∧ I 40 0 ≤ 9 ∧ 0 ≤ I 40 1 ∧ I 40 1 ≤ 9 ∧ 0 ≤ I 40 2 ∧ I 40 2 ≤ 95
def ivCl (I : xI) : Prop := I 57 45 = I 41 2 ∧ 0 ≤ I 41 2 ∧ I 41 2 ≤ 50 ∧ (∀ k : Nat, k < 50 → I 85 k = I 42 k ∧ 0 ≤ I 42 k ∧ I 42 k ≤ 7) ∧ I 57 47 = I 41 3 ∧ 0 ≤ I 41 3 ∧ I 41 3 ≤ 1000 ∧ (∀ k : Nat, k < 24 → nI k < I 41 3 → I 86 k = I 43 k)
/-- a shelf of the class (a its object, e its elements) and the s-th of the reference -/
def shRel (I : xI) (J : xJ) (a e s : Nat) : Prop := (I a 1 = 0 ∧ I 87 s = -1) ∨ (I a 1 = 1 ∧ I 87 s = I a 2 ∧ 0 ≤ I a 2 ∧ I a 2 < I 41 2) ∨ (I a 1 = 2 ∧ I 87 s = -2 - I a 3 ∧ 0 ≤ I a 3 ∧ I a 3 ≤ 4 ∧ I 88 s = I a 4 ∧ 0 ≤ I a 4 ∧ I a 4 ≤ 60 ∧ ∀ k : Nat, k < 60 → J 89 (60 * s + k) = J e k)
def ivSh (I : xI) (J : xJ) : Prop := ∀ s : Nat, s < 6 → shRel I J (45 + 2 * s) (46 + 2 * s) s
/-! the law: lines of a test (none: empty) and a value, each turned to signs behind what they work on (the class's signs) -/
abbrev lwT : Type := List (List Int32 × List Int32)
def lwClass (ls : lwT) : List Int32 := ls.flatMap (fun l => (if l.1 = [] then [] else l.1 ++ [-63]) ++ (l.2 ++ [-59]))
def lwModel (ls : lwT) : List Int32 := ls.flatMap (fun l => l.1 ++ l.2)
/-- the height of the pile behind the signs, at most m at any time -/
def hgt (m : Nat) : List Int32 → Nat → Option Nat
  | [], h => some h
  | t :: ts, h => if -6 ≤ t then (if h < m then hgt m ts (h + 1) else none) else if t = -33 ∨ t = -126 then (if 1 ≤ h then hgt m ts h else none) else if 2 ≤ h then hgt m ts (h - 1) else none
def tokOk (t : Int32) : Prop := -6 ≤ t ∨ t ∈ [(-33 : Int32), -126, -124, -38, -60, -61, -62, -43, -45, -42, -47, -37]
def okE (ts : List Int32) : Prop := hgt 40 ts 0 = some 1 ∧ ∀ t ∈ ts, tokOk t
def mAct (t : Int32) : Int32 := if 0 ≤ t then 1 else if -6 ≤ t then 2 else if t = -33 then 3 else if t = -126 then 4 else -t
def mWith (t : Int32) : Int32 := if 0 ≤ t then t else if -6 ≤ t then -1 - t else 0
def lwStart (ls : lwT) (j : Nat) : Nat := (lwModel (ls.take j)).length
def ivLaw (I : xI) : Prop := (I 2 3 = 0 ∧ I 57 29 = 0) ∨ ∃ ls : lwT, ls ≠ [] ∧ (∀ l ∈ ls, (l.1 = [] ∨ okE l.1) ∧ okE l.2) ∧ (lwClass ls).length ≤ 121 ∧ I 2 3 = nI (lwClass ls).length ∧ (∀ (k : Nat) (t : Int32), (lwClass ls)[k]? = some t → I 3 k = t) ∧ I 57 29 = 1 ∧ (lwModel ls).length ≤ 130 ∧ ls.length ≤ 61 ∧ I 72 0 = nI ls.length ∧ (∀ (k : Nat) (t : Int32), (lwModel ls)[k]? = some t → I 70 k = mAct t ∧ I 71 k = mWith t) ∧ ∀ (j : Nat) (l : List Int32 × List Int32), ls[j]? = some l → I 73 j = nI (lwStart ls j + l.1.length) ∧ I 74 j = nI (lwStart ls j + l.1.length + l.2.length)
/-- the rows on which the law stands -/
def lawRows (I I' : xI) : Prop := I' 2 3 = I 2 3 ∧ I' 3 = I 3 ∧ I' 57 29 = I 57 29 ∧ I' 70 = I 70 ∧ I' 71 = I 71 ∧ I' 72 0 = I 72 0 ∧ I' 73 = I 73 ∧ I' 74 = I 74
theorem ivLaw_frame {I I' : xI} (h : ivLaw I) (r : lawRows I I') : ivLaw I' := by
  obtain ⟨r1, r2, r3, r4, r5, r6, r7, r8⟩ := r
  unfold ivLaw at h ⊢
  rw [r1, r2, r3, r4, r5, r6, r7, r8]
  exact h
def Inv (I : xI) (J : xJ) : Prop := ivHouse I ∧ ivBills I ∧ ivSens I ∧ ivInf I ∧ ivChg I ∧ ivTape I ∧ ivLed I ∧ ivImg I ∧ ivCl I ∧ ivSh I J ∧ ivLaw I
/-! ===== the small ones of both ===== -/
def f_in (v a b : Int32) : Int32 := if v < a ∨ b < v then 0 else 1
theorem f_in_01 {v a b : Int32} : f_in v a b = 0 ∨ f_in v a b = 1 := by unfold f_in; grind
theorem nz01 {x : Int32} (h : x = 0 ∨ x = 1) : narrow .boolean (.int x) = .int x := by rcases h with rfl | rfl <;> rfl
section
variable {I : xI} {J : xJ}
theorem s_X12_in (v a b : Int32) : SpecF 0 M_X12_in [.int v, .int a, .int b] xG1 I J (some (.int (f_in v a b))) I J := by
  refine specF_of (L := [some (.int v), some (.int a), some (.int b)]) (by decide) (Nat.le_of_ble_eq_true rfl) rfl ?_
  refine iX12_in_0 (iX12_in_1 (iX12_in_2 (fun h2 => ?_) (fun h2 => ?_)))
  · refine iX12_in_14 (iX12_in_15 ?_)
    exact ⟨congrArg (fun z => some (Value.int z)) (by unfold f_in; grind), rfl, rfl, rfl⟩
  · refine iX12_in_5 (iX12_in_6 (iX12_in_7 (fun h7 => ?_) (fun h7 => ?_)))
    · refine iX12_in_14 (iX12_in_15 ?_)
      exact ⟨congrArg (fun z => some (Value.int z)) (by unfold f_in; grind), rfl, rfl, rfl⟩
    · refine iX12_in_10 (iX12_in_11 (iX12_in_15 ?_))
      exact ⟨congrArg (fun z => some (Value.int z)) (by unfold f_in; grind), rfl, rfl, rfl⟩
theorem s_X12_isBill (b : Int32) : SpecF 1 M_X12_isBill [.ref 57, .int b] xG1 I J (some (.int (f_in b 0 (I 57 1 - 1)))) I J := by
  refine specF_of (L := [some (.ref 57), some (.int b)]) (by decide) (Nat.le_of_ble_eq_true rfl) rfl ?_
  refine iX12_isBill_0 (iX12_isBill_1 (iX12_isBill_2 (iX12_isBill_3 (iX12_isBill_6 (iX12_isBill_7 (iX12_isBill_8 (s_X12_in _ _ _) (iX12_isBill_11 ?_ (nz01 f_in_01))))))))
  exact ⟨rfl, rfl, rfl, rfl⟩
theorem s_X12_isSenator (b : Int32) : SpecF 1 M_X12_isSenator [.ref 57, .int b] xG1 I J (some (.int (f_in b 0 (I 57 6 - 1)))) I J := by
  refine specF_of (L := [some (.ref 57), some (.int b)]) (by decide) (Nat.le_of_ble_eq_true rfl) rfl ?_
  refine iX12_isSenator_0 (iX12_isSenator_1 (iX12_isSenator_2 (iX12_isSenator_3 (iX12_isSenator_6 (iX12_isSenator_7 (iX12_isSenator_8 (s_X12_in _ _ _) (iX12_isSenator_11 ?_ (nz01 f_in_01))))))))
  exact ⟨rfl, rfl, rfl, rfl⟩
theorem s_X12_isShelf (b : Int32) : SpecF 1 M_X12_isShelf [.int b] xG1 I J (some (.int (f_in b 0 5))) I J := by
  refine specF_of (L := [some (.int b)]) (by decide) (Nat.le_of_ble_eq_true rfl) rfl ?_
  refine iX12_isShelf_0 (iX12_isShelf_1 (iX12_isShelf_2 (iX12_isShelf_3 (s_X12_in _ _ _) (iX12_isShelf_6 ?_ (nz01 f_in_01)))))
  exact ⟨rfl, rfl, rfl, rfl⟩
theorem s_X12_isBody (b : Int32) : SpecF 1 M_X12_isBody [.ref 57, .int b] xG1 I J (some (.int (f_in b 0 (I 57 45 - 1)))) I J := by
  refine specF_of (L := [some (.ref 57), some (.int b)]) (by decide) (Nat.le_of_ble_eq_true rfl) rfl ?_
  refine iX12_isBody_0 (iX12_isBody_1 (iX12_isBody_2 (iX12_isBody_3 (iX12_isBody_6 (iX12_isBody_7 (iX12_isBody_8 (s_X12_in _ _ _) (iX12_isBody_11 ?_ (nz01 f_in_01))))))))
  exact ⟨rfl, rfl, rfl, rfl⟩
theorem s_X11_isShelf (b : Int32) : SpecF 0 M_X11_isShelf [.ref 0, .int b] xG1 I J (some (.int (f_in b 0 5))) I J := by
  refine specF_of (L := [some (.ref 0), some (.int b)]) (by decide) (Nat.le_of_ble_eq_true rfl) rfl ?_
  refine iX11_isShelf_0 (iX11_isShelf_1 (fun h1 => ?_) (fun h1 => ?_))
  · refine iX11_isShelf_14 (iX11_isShelf_15 ?_)
    exact ⟨congrArg (fun z => some (Value.int z)) (by unfold f_in; grind), rfl, rfl, rfl⟩
  · refine iX11_isShelf_4 (iX11_isShelf_5 (iX11_isShelf_7 (fun h7 => ?_) (fun h7 => ?_)))
    · refine iX11_isShelf_14 (iX11_isShelf_15 ?_)
      exact ⟨congrArg (fun z => some (Value.int z)) (by unfold f_in; grind), rfl, rfl, rfl⟩
    · refine iX11_isShelf_10 (iX11_isShelf_11 (iX11_isShelf_15 ?_))
      exact ⟨congrArg (fun z => some (Value.int z)) (by unfold f_in; grind), rfl, rfl, rfl⟩
theorem s_X11_isPart (b : Int32) : SpecF 0 M_X11_isPart [.int b] xG1 I J (some (.int (f_in b 0 1))) I J := by
  refine specF_of (L := [some (.int b)]) (by decide) (Nat.le_of_ble_eq_true rfl) rfl ?_
  refine iX11_isPart_0 (iX11_isPart_1 (fun h1 => ?_) (fun h1 => ?_))
  · refine iX11_isPart_9 (iX11_isPart_10 (iX11_isPart_14 ?_))
    exact ⟨congrArg (fun z => some (Value.int z)) (by unfold f_in; grind), rfl, rfl, rfl⟩
  · refine iX11_isPart_4 (iX11_isPart_5 (iX11_isPart_6 (fun h6 => ?_) (fun h6 => ?_)))
    · refine iX11_isPart_13 (iX11_isPart_14 ?_)
      exact ⟨congrArg (fun z => some (Value.int z)) (by unfold f_in; grind), rfl, rfl, rfl⟩
    · refine iX11_isPart_9 (iX11_isPart_10 (iX11_isPart_14 ?_))
      exact ⟨congrArg (fun z => some (Value.int z)) (by unfold f_in; grind), rfl, rfl, rfl⟩
theorem s_X11_isCount (b : Int32) : SpecF 0 M_X11_isCount [.int b] xG1 I J (some (.int (f_in b 0 10))) I J := by
  refine specF_of (L := [some (.int b)]) (by decide) (Nat.le_of_ble_eq_true rfl) rfl ?_
  refine iX11_isCount_0 (iX11_isCount_1 (fun h1 => ?_) (fun h1 => ?_))
  · refine iX11_isCount_14 (iX11_isCount_15 ?_)
    exact ⟨congrArg (fun z => some (Value.int z)) (by unfold f_in; grind), rfl, rfl, rfl⟩
  · refine iX11_isCount_4 (iX11_isCount_5 (iX11_isCount_7 (fun h7 => ?_) (fun h7 => ?_)))
    · refine iX11_isCount_14 (iX11_isCount_15 ?_)
      exact ⟨congrArg (fun z => some (Value.int z)) (by unfold f_in; grind), rfl, rfl, rfl⟩
    · refine iX11_isCount_10 (iX11_isCount_11 (iX11_isCount_15 ?_))
      exact ⟨congrArg (fun z => some (Value.int z)) (by unfold f_in; grind), rfl, rfl, rfl⟩
theorem s_X3_isKind (b : Int32) : SpecF 0 M_X3_isKind [.int b] xG1 I J (some (.int (f_in b 0 7))) I J := by
  refine specF_of (L := [some (.int b)]) (by decide) (Nat.le_of_ble_eq_true rfl) rfl ?_
  refine iX3_isKind_0 (iX3_isKind_1 (fun h1 => ?_) (fun h1 => ?_))
  · refine iX3_isKind_14 (iX3_isKind_15 ?_)
    exact ⟨congrArg (fun z => some (Value.int z)) (by unfold f_in; grind), rfl, rfl, rfl⟩
  · refine iX3_isKind_4 (iX3_isKind_5 (iX3_isKind_7 (fun h7 => ?_) (fun h7 => ?_)))
    · refine iX3_isKind_14 (iX3_isKind_15 ?_)
      exact ⟨congrArg (fun z => some (Value.int z)) (by unfold f_in; grind), rfl, rfl, rfl⟩
    · refine iX3_isKind_10 (iX3_isKind_11 (iX3_isKind_15 ?_))
      exact ⟨congrArg (fun z => some (Value.int z)) (by unfold f_in; grind), rfl, rfl, rfl⟩
def mg_addBill (I : xI) (l s w : Int32) : xI := xu (xu (xu (xu I 58 (I 57 1).toNatClampNeg l) 59 (I 57 1).toNatClampNeg s) 61 (I 57 1).toNatClampNeg w) 57 1 (I 57 1 + 1)
theorem s_X12_addBill (l s w : Int32) (h0 : ¬ I 57 1 < 0) (h1 : I 57 1 < 10) : SpecF 1 M_X12_addBill [.ref 57, .int l, .int s, .int w] xG1 I J (some (.int (I 57 1))) (mg_addBill I l s w) J := by
  refine specF_of (L := [some (.ref 57), some (.int l), some (.int s), some (.int w)]) (by decide) (Nat.le_of_ble_eq_true rfl) rfl ?_
  refine iX12_addBill_0 (iX12_addBill_1 (iX12_addBill_4 (iX12_addBill_5 (iX12_addBill_8 (iX12_addBill_9 (vin 10 (by decide) h0 h1) (iX12_addBill_10 (iX12_addBill_11 (iX12_addBill_14 (iX12_addBill_15 (iX12_addBill_18 (iX12_addBill_19 (vin 10 (by decide) h0 h1) (iX12_addBill_20 (iX12_addBill_21 (iX12_addBill_24 (iX12_addBill_25 (iX12_addBill_28 (iX12_addBill_29 (vin 10 (by decide) h0 h1) (iX12_addBill_30 (iX12_addBill_31 (iX12_addBill_32 (iX12_addBill_35 (iX12_addBill_36 (iX12_addBill_37 (iX12_addBill_40 (iX12_addBill_41 (iX12_addBill_44 (iX12_addBill_45 (iX12_addBill_46 ?_))))))))))))))))))))))))))))
  exact ⟨congrArg (fun z => some (Value.int z)) (by simp [xu]), rfl, by simp [mg_addBill, xu], rfl⟩
end
