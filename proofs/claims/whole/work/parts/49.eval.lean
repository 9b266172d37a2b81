/-! ===== the law worked out: the class's written(), the reference's gives() ===== -/
def xFr (S : List Nat) (I I' : xI) : Prop := ∀ a : Nat, a ∉ S → I' a = I a
theorem xFr.rf {S : List Nat} {I : xI} : xFr S I I := fun _ _ => rfl
theorem xFr.tr {S : List Nat} {I I1 I2 : xI} (h : xFr S I I1) (h2 : xFr S I1 I2) : xFr S I I2 := fun a ha => (h2 a ha).trans (h a ha)
theorem xFr.mono {S T : List Nat} {I I1 : xI} (h : xFr S I I1) (hs : ∀ a ∈ S, a ∈ T) : xFr T I I1 := fun a ha => h a (fun q => ha (hs a q))
theorem xFr.up {S : List Nat} {I I1 : xI} {a j : Nat} {v : Int32} (h : xFr S I I1) (ha : a ∈ S) : xFr S I (xu I1 a j v) := fun b hb => by
  rw [xu_rowf (fun q => hb (by rw [q]; exact ha))]
  exact h b hb
def tWork (s a b : Int32) : Int32 := if s = 124 then (if a = 0 then (if b = 0 then 0 else 1) else 1) else if s = 38 then (if a = 0 then 0 else if b = 0 then 0 else 1) else if s = 60 then (if a < b then 1 else 0) else if s = 61 then (if a = b then 1 else 0) else if s = 62 then (if b < a then 1 else 0) else if s = 43 then a + b else if s = 45 then a - b else if s = 42 then a * b else if s = 47 then (if b = 0 then 0 else a / b) else (if b = 0 then 0 else a - a / b * b)
theorem WP_I {d : Nat} {b : xB} {sc : xSn} {M : xM} {Q : xP} {pc : Nat} {L : List (Option Value)} {st : List Value} {g : xG} {I I' : xI} {J : xJ} (h : I = I') (k : WP d b sc M Q pc L st g I' J) : WP d b sc M Q pc L st g I J := by subst h; exact k
theorem div_m1 (a : Int32) : a / (-1) = -a := Int32.toInt_inj.mp (by
  rw [Int32.toInt_div, show (-1 : Int32).toInt = -1 by decide, Int.tdiv_neg, Int.tdiv_one, Int32.toInt_neg])
theorem rem_m1 (a : Int32) : a - a / (-1) * (-1) = 0 := by rw [div_m1]; grind
section
variable {I : xI} {J : xJ}
theorem s_X6_worked (s a b : Int32) : SpecF 0 M_X6_worked [.int s, .int a, .int b] xG1 I J (some (.int (tWork s a b))) I J := by
  refine specF_of (L := [some (.int s), some (.int a), some (.int b)]) (by decide) (Nat.le_of_ble_eq_true rfl) rfl ?_
  refine iX6_worked_0 (iX6_worked_1 (fun h1 => ?_) (fun h1 => ?_) (fun h1 => ?_) (fun h1 => ?_) (fun h1 => ?_) (fun h1 => ?_) (fun h1 => ?_) (fun h1 => ?_) (fun h1 => ?_) (fun h1_0 h1_1 h1_2 h1_3 h1_4 h1_5 h1_6 h1_7 h1_8 => ?_))
  · refine iX6_worked_98 (iX6_worked_99 (fun h99 => ?_) (fun h99 => ?_))
    · refine iX6_worked_110 (iX6_worked_111 ?_)
      refine ⟨congrArg (fun z => some (Value.int z)) ?_, rfl, rfl, rfl⟩
      unfold tWork
      grind
    · refine iX6_worked_102 (iX6_worked_103 (fun h103 => ?_) (fun h103 => ?_))
      · refine iX6_worked_110 (iX6_worked_111 ?_)
        refine ⟨congrArg (fun z => some (Value.int z)) ?_, rfl, rfl, rfl⟩
        unfold tWork
        grind
      · refine iX6_worked_106 (iX6_worked_107 (iX6_worked_111 ?_))
        refine ⟨congrArg (fun z => some (Value.int z)) ?_, rfl, rfl, rfl⟩
        unfold tWork
        grind
  · refine iX6_worked_153 (iX6_worked_154 (iX6_worked_155 (iX6_worked_156 ?_)))
    refine ⟨congrArg (fun z => some (Value.int z)) ?_, rfl, rfl, rfl⟩
    unfold tWork
    grind
  · refine iX6_worked_145 (iX6_worked_146 (iX6_worked_147 (iX6_worked_148 ?_)))
    refine ⟨congrArg (fun z => some (Value.int z)) ?_, rfl, rfl, rfl⟩
    unfold tWork
    grind
  · refine iX6_worked_149 (iX6_worked_150 (iX6_worked_151 (iX6_worked_152 ?_)))
    refine ⟨congrArg (fun z => some (Value.int z)) ?_, rfl, rfl, rfl⟩
    unfold tWork
    grind
  · refine iX6_worked_157 (iX6_worked_158 (fun h158 => ?_) (fun h158 => ?_))
    · refine iX6_worked_165 (iX6_worked_166 (iX6_worked_167 h158 (iX6_worked_168 ?_)))
      refine ⟨congrArg (fun z => some (Value.int z)) ?_, rfl, rfl, rfl⟩
      unfold tWork
      grind
    · refine iX6_worked_161 (iX6_worked_162 (iX6_worked_168 ?_))
      refine ⟨congrArg (fun z => some (Value.int z)) ?_, rfl, rfl, rfl⟩
      unfold tWork
      grind
  · refine iX6_worked_112 (iX6_worked_113 (iX6_worked_114 (fun h114 => ?_) (fun h114 => ?_)))
    · refine iX6_worked_121 (iX6_worked_122 ?_)
      refine ⟨congrArg (fun z => some (Value.int z)) ?_, rfl, rfl, rfl⟩
      unfold tWork
      grind
    · refine iX6_worked_117 (iX6_worked_118 (iX6_worked_122 ?_))
      refine ⟨congrArg (fun z => some (Value.int z)) ?_, rfl, rfl, rfl⟩
      unfold tWork
      grind
  · refine iX6_worked_123 (iX6_worked_124 (iX6_worked_125 (fun h125 => ?_) (fun h125 => ?_)))
    · refine iX6_worked_132 (iX6_worked_133 ?_)
      refine ⟨congrArg (fun z => some (Value.int z)) ?_, rfl, rfl, rfl⟩
      unfold tWork
      grind
    · refine iX6_worked_128 (iX6_worked_129 (iX6_worked_133 ?_))
      refine ⟨congrArg (fun z => some (Value.int z)) ?_, rfl, rfl, rfl⟩
      unfold tWork
      grind
  · refine iX6_worked_134 (iX6_worked_135 (iX6_worked_136 (fun h136 => ?_) (fun h136 => ?_)))
    · refine iX6_worked_143 (iX6_worked_144 ?_)
      refine ⟨congrArg (fun z => some (Value.int z)) ?_, rfl, rfl, rfl⟩
      unfold tWork
      grind
    · refine iX6_worked_139 (iX6_worked_140 (iX6_worked_144 ?_))
      refine ⟨congrArg (fun z => some (Value.int z)) ?_, rfl, rfl, rfl⟩
      unfold tWork
      grind
  · refine iX6_worked_84 (iX6_worked_85 (fun h85 => ?_) (fun h85 => ?_))
    · refine iX6_worked_92 (iX6_worked_93 (iX6_worked_97 ?_))
      refine ⟨congrArg (fun z => some (Value.int z)) ?_, rfl, rfl, rfl⟩
      unfold tWork
      grind
    · refine iX6_worked_88 (iX6_worked_89 (fun h89 => ?_) (fun h89 => ?_))
      · refine iX6_worked_96 (iX6_worked_97 ?_)
        refine ⟨congrArg (fun z => some (Value.int z)) ?_, rfl, rfl, rfl⟩
        unfold tWork
        grind
      · refine iX6_worked_92 (iX6_worked_93 (iX6_worked_97 ?_))
        refine ⟨congrArg (fun z => some (Value.int z)) ?_, rfl, rfl, rfl⟩
        unfold tWork
        grind
  · refine iX6_worked_169 (iX6_worked_170 (fun h170 => ?_) (fun h170 => ?_))
    · refine iX6_worked_177 (iX6_worked_178 (iX6_worked_179 h170 (iX6_worked_180 ?_)))
      refine ⟨congrArg (fun z => some (Value.int z)) ?_, rfl, rfl, rfl⟩
      unfold tWork
      grind
    · refine iX6_worked_173 (iX6_worked_174 (iX6_worked_180 ?_))
      refine ⟨congrArg (fun z => some (Value.int z)) ?_, rfl, rfl, rfl⟩
      unfold tWork
      grind
theorem s_X12_twoOf (s a b : Int32) (hs : s = 124 ∨ s = 38 ∨ s = 60 ∨ s = 61 ∨ s = 62 ∨ s = 43 ∨ s = 45 ∨ s = 42 ∨ s = 47 ∨ s = 37) : SpecF 0 M_X12_twoOf [.int s, .int a, .int b] xG1 I J (some (.int (tWork s a b))) I J := by
  refine specF_of (L := [some (.int s), some (.int a), some (.int b)]) (by decide) (Nat.le_of_ble_eq_true rfl) rfl ?_
  have m1 := div_m1 a
  have m2 := rem_m1 a
  refine iX12_twoOf_0 (iX12_twoOf_1 (fun h1 => ?_) (fun h1 => ?_) (fun h1 => ?_) (fun h1 => ?_) (fun h1 => ?_) (fun h1 => ?_) (fun h1 => ?_) (fun h1 => ?_) (fun h1 => ?_) (fun h1_0 h1_1 h1_2 h1_3 h1_4 h1_5 h1_6 h1_7 h1_8 => ?_))
  · refine iX12_twoOf_154 (iX12_twoOf_155 (fun h155 => ?_) (fun h155 => ?_))
    · refine iX12_twoOf_163 (iX12_twoOf_164 (iX12_twoOf_170 ?_))
      refine ⟨congrArg (fun z => some (Value.int z)) ?_, rfl, rfl, rfl⟩
      unfold tWork
      grind
    · refine iX12_twoOf_158 (iX12_twoOf_159 (iX12_twoOf_160 (fun h160 => ?_) (fun h160 => ?_)))
      · refine iX12_twoOf_167 (iX12_twoOf_168 (iX12_twoOf_169 h155 (iX12_twoOf_170 ?_)))
        refine ⟨congrArg (fun z => some (Value.int z)) ?_, rfl, rfl, rfl⟩
        unfold tWork
        grind
      · refine iX12_twoOf_163 (iX12_twoOf_164 (iX12_twoOf_170 ?_))
        refine ⟨congrArg (fun z => some (Value.int z)) ?_, rfl, rfl, rfl⟩
        unfold tWork
        grind
  · refine iX12_twoOf_204 (iX12_twoOf_205 (fun h205 => ?_) (fun h205 => ?_))
    · refine iX12_twoOf_216 (iX12_twoOf_217 ?_)
      refine ⟨congrArg (fun z => some (Value.int z)) ?_, rfl, rfl, rfl⟩
      unfold tWork
      grind
    · refine iX12_twoOf_208 (iX12_twoOf_209 (fun h209 => ?_) (fun h209 => ?_))
      · refine iX12_twoOf_216 (iX12_twoOf_217 ?_)
        refine ⟨congrArg (fun z => some (Value.int z)) ?_, rfl, rfl, rfl⟩
        unfold tWork
        grind
      · refine iX12_twoOf_212 (iX12_twoOf_213 (iX12_twoOf_217 ?_))
        refine ⟨congrArg (fun z => some (Value.int z)) ?_, rfl, rfl, rfl⟩
        unfold tWork
        grind
  · refine iX12_twoOf_128 (iX12_twoOf_129 (iX12_twoOf_130 (iX12_twoOf_131 ?_)))
    refine ⟨congrArg (fun z => some (Value.int z)) ?_, rfl, rfl, rfl⟩
    unfold tWork
    grind
  · refine iX12_twoOf_120 (iX12_twoOf_121 (iX12_twoOf_122 (iX12_twoOf_123 ?_)))
    refine ⟨congrArg (fun z => some (Value.int z)) ?_, rfl, rfl, rfl⟩
    unfold tWork
    grind
  · refine iX12_twoOf_124 (iX12_twoOf_125 (iX12_twoOf_126 (iX12_twoOf_127 ?_)))
    refine ⟨congrArg (fun z => some (Value.int z)) ?_, rfl, rfl, rfl⟩
    unfold tWork
    grind
  · refine iX12_twoOf_132 (iX12_twoOf_133 (fun h133 => ?_) (fun h133 => ?_))
    · refine iX12_twoOf_140 (iX12_twoOf_141 (iX12_twoOf_142 (fun h142 => ?_) (fun h142 => ?_)))
      · refine iX12_twoOf_150 (iX12_twoOf_151 (iX12_twoOf_152 h133 (iX12_twoOf_153 ?_)))
        refine ⟨congrArg (fun z => some (Value.int z)) ?_, rfl, rfl, rfl⟩
        unfold tWork
        grind
      · refine iX12_twoOf_145 (iX12_twoOf_146 (iX12_twoOf_147 (iX12_twoOf_153 ?_)))
        refine ⟨congrArg (fun z => some (Value.int z)) ?_, rfl, rfl, rfl⟩
        unfold tWork
        grind
    · refine iX12_twoOf_136 (iX12_twoOf_137 (iX12_twoOf_153 ?_))
      refine ⟨congrArg (fun z => some (Value.int z)) ?_, rfl, rfl, rfl⟩
      unfold tWork
      grind
  · refine iX12_twoOf_171 (iX12_twoOf_172 (iX12_twoOf_173 (fun h173 => ?_) (fun h173 => ?_)))
    · refine iX12_twoOf_180 (iX12_twoOf_181 ?_)
      refine ⟨congrArg (fun z => some (Value.int z)) ?_, rfl, rfl, rfl⟩
      unfold tWork
      grind
    · refine iX12_twoOf_176 (iX12_twoOf_177 (iX12_twoOf_181 ?_))
      refine ⟨congrArg (fun z => some (Value.int z)) ?_, rfl, rfl, rfl⟩
      unfold tWork
      grind
  · refine iX12_twoOf_182 (iX12_twoOf_183 (iX12_twoOf_184 (fun h184 => ?_) (fun h184 => ?_)))
    · refine iX12_twoOf_191 (iX12_twoOf_192 ?_)
      refine ⟨congrArg (fun z => some (Value.int z)) ?_, rfl, rfl, rfl⟩
      unfold tWork
      grind
    · refine iX12_twoOf_187 (iX12_twoOf_188 (iX12_twoOf_192 ?_))
      refine ⟨congrArg (fun z => some (Value.int z)) ?_, rfl, rfl, rfl⟩
      unfold tWork
      grind
  · refine iX12_twoOf_193 (iX12_twoOf_194 (iX12_twoOf_195 (fun h195 => ?_) (fun h195 => ?_)))
    · refine iX12_twoOf_202 (iX12_twoOf_203 ?_)
      refine ⟨congrArg (fun z => some (Value.int z)) ?_, rfl, rfl, rfl⟩
      unfold tWork
      grind
    · refine iX12_twoOf_198 (iX12_twoOf_199 (iX12_twoOf_203 ?_))
      refine ⟨congrArg (fun z => some (Value.int z)) ?_, rfl, rfl, rfl⟩
      unfold tWork
      grind
  · refine iX12_twoOf_218 (iX12_twoOf_219 (fun h219 => ?_) (fun h219 => ?_))
    · refine iX12_twoOf_226 (iX12_twoOf_227 (iX12_twoOf_231 ?_))
      refine ⟨congrArg (fun z => some (Value.int z)) ?_, rfl, rfl, rfl⟩
      unfold tWork
      grind
    · refine iX12_twoOf_222 (iX12_twoOf_223 (fun h223 => ?_) (fun h223 => ?_))
      · refine iX12_twoOf_230 (iX12_twoOf_231 ?_)
        refine ⟨congrArg (fun z => some (Value.int z)) ?_, rfl, rfl, rfl⟩
        unfold tWork
        grind
      · refine iX12_twoOf_226 (iX12_twoOf_227 (iX12_twoOf_231 ?_))
        refine ⟨congrArg (fun z => some (Value.int z)) ?_, rfl, rfl, rfl⟩
        unfold tWork
        grind
end
def tSt (F : Nat → Int32) (t : Int32) (st : List Int32) : List Int32 :=
  if 0 ≤ t then t :: st else if -6 ≤ t then F (-t - 1).toNatClampNeg :: st else match st with
  | [] => []
  | b :: r => if t = -33 then (if b = 0 then 1 else 0) :: r else if t = -126 then (-b) :: r else match r with
    | [] => []
    | a :: r' => tWork (-t) a b :: r'
def ev (F : Nat → Int32) : List Int32 → List Int32 → List Int32
  | [], st => st
  | t :: ts, st => ev F ts (tSt F t st)
/-- a row holds a pile, its latest last -/
def rep (r : Nat → Int32) : List Int32 → Prop
  | [] => True
  | v :: st => r st.length = v ∧ rep r st
theorem rep_fr {r r' : Nat → Int32} : ∀ st : List Int32, rep r st → (∀ k : Nat, k < st.length → r' k = r k) → rep r' st
  | [], _, _ => trivial
  | v :: st, h, hk => ⟨(hk _ (by simp)).trans h.1, rep_fr st h.2 (fun k hk2 => hk k (by simp; omega))⟩
theorem rep_up {I : xI} {a : Nat} {v : Int32} {st : List Int32} (h : rep (I a) st) : rep (xu I a st.length v a) (v :: st) := ⟨xu_eq, rep_fr st h (fun k hk => xu_col (Nat.ne_of_lt hk))⟩
theorem neg_pos {t : Int32} (h : 0 ≤ t) : ¬ 0 < -t := by
  obtain ⟨n, hn, rfl⟩ := nI_of (x := t) (by grind)
  simp only [Int32.lt_iff_toInt_lt, Int32.toInt_neg, nI_toInt hn]
  rw [Int.bmod_eq_of_le (by omega) (by omega)]
  simp
theorem neg_names {t : Int32} (h : ¬ 0 ≤ t) (h6 : -6 ≤ t) : t = -1 ∨ t = -2 ∨ t = -3 ∨ t = -4 ∨ t = -5 ∨ t = -6 := by
  simp only [Int32.le_iff_toInt_le] at h h6
  have e0 : (0 : Int32).toInt = 0 := by decide
  have e6 : (-6 : Int32).toInt = -6 := by decide
  rw [e0] at h
  rw [e6] at h6
  have : t.toInt = -1 ∨ t.toInt = -2 ∨ t.toInt = -3 ∨ t.toInt = -4 ∨ t.toInt = -5 ∨ t.toInt = -6 := by omega
  rcases this with q | q | q | q | q | q
  · exact Or.inl (Int32.toInt_inj.mp (q.trans (by decide)))
  · exact Or.inr (Or.inl (Int32.toInt_inj.mp (q.trans (by decide))))
  · exact Or.inr (Or.inr (Or.inl (Int32.toInt_inj.mp (q.trans (by decide)))))
  · exact Or.inr (Or.inr (Or.inr (Or.inl (Int32.toInt_inj.mp (q.trans (by decide))))))
  · exact Or.inr (Or.inr (Or.inr (Or.inr (Or.inl (Int32.toInt_inj.mp (q.trans (by decide)))))))
  · exact Or.inr (Or.inr (Or.inr (Or.inr (Or.inr (Int32.toInt_inj.mp (q.trans (by decide)))))))
/-- what a sign is, five ways -/
def tBin (t : Int32) : Prop := t = -124 ∨ t = -38 ∨ t = -60 ∨ t = -61 ∨ t = -62 ∨ t = -43 ∨ t = -45 ∨ t = -42 ∨ t = -47 ∨ t = -37
theorem tok_cases {t : Int32} (h : tokOk t) : 0 ≤ t ∨ (¬ 0 ≤ t ∧ -6 ≤ t) ∨ t = -33 ∨ t = -126 ∨ tBin t := by
  by_cases h0 : 0 ≤ t
  · exact Or.inl h0
  rcases h with h | h
  · exact Or.inr (Or.inl ⟨h0, h⟩)
  · simp only [List.mem_cons, List.not_mem_nil, or_false] at h
    unfold tBin
    grind
theorem bin_facts {t : Int32} (h : tBin t) : ¬ 0 ≤ t ∧ ¬ -6 ≤ t ∧ ¬ t = -33 ∧ ¬ t = -126 ∧ 0 < -t ∧ 6 < -t ∧ ¬ -t = 59 ∧ ¬ -t = 63 ∧ ¬ -t = 33 ∧ ¬ -t = 126 ∧ (-t = 124 ∨ -t = 38 ∨ -t = 60 ∨ -t = 61 ∨ -t = 62 ∨ -t = 43 ∨ -t = 45 ∨ -t = 42 ∨ -t = 47 ∨ -t = 37) ∧ mAct t = -t ∧ ¬ -t = 1 ∧ ¬ -t = 2 ∧ ¬ -t = 3 ∧ ¬ -t = 4 := by
  rcases h with rfl | rfl | rfl | rfl | rfl | rfl | rfl | rfl | rfl | rfl <;> decide
theorem hgt_un {m m' : Nat} {t : Int32} {ts : List Int32} {h : Nat} (ht : t = -33 ∨ t = -126) (hg : hgt m (t :: ts) h = some m') : 1 ≤ h ∧ hgt m ts h = some m' := by
  have n6 : ¬ -6 ≤ t := by rcases ht with rfl | rfl <;> decide
  simp only [hgt, if_neg n6, if_pos ht] at hg
  by_cases q : 1 ≤ h
  · rw [if_pos q] at hg; exact ⟨q, hg⟩
  · rw [if_neg q] at hg; cases hg
theorem hgt_bin {m m' : Nat} {t : Int32} {ts : List Int32} {h : Nat} (ht : tBin t) (hg : hgt m (t :: ts) h = some m') : 2 ≤ h ∧ hgt m ts (h - 1) = some m' := by
  obtain ⟨a1, a2, a3, a4, -⟩ := bin_facts ht
  simp only [hgt, if_neg a2, if_neg (not_or.mpr ⟨a3, a4⟩)] at hg
  by_cases q : 2 ≤ h
  · rw [if_pos q] at hg; exact ⟨q, hg⟩
  · rw [if_neg q] at hg; cases hg
theorem hgt_push {m m' : Nat} {t : Int32} {ts : List Int32} {h : Nat} (ht : -6 ≤ t) (hg : hgt m (t :: ts) h = some m') : h < m ∧ hgt m ts (h + 1) = some m' := by
  simp only [hgt, if_pos ht] at hg
  by_cases q : h < m
  · rw [if_pos q] at hg; exact ⟨q, hg⟩
  · rw [if_neg q] at hg; cases hg
theorem ev_len {F : Nat → Int32} {m m' : Nat} : ∀ (ts : List Int32) (st : List Int32), (∀ t ∈ ts, tokOk t) → hgt m ts st.length = some m' → (ev F ts st).length = m'
  | [], st, _, h => by simpa [hgt, ev] using h
  | t :: ts, st, ht, h => by
    have hts := fun x hx => ht x (List.mem_cons_of_mem _ hx)
    rcases tok_cases (ht t List.mem_cons_self) with q | ⟨q, q2⟩ | q | q | q
    · obtain ⟨h1, h2⟩ := hgt_push (Int32.le_trans (by decide) q) h
      have := ev_len (F := F) ts (t :: st) hts h2
      simp only [ev, tSt, if_pos q]
      exact this
    · obtain ⟨h1, h2⟩ := hgt_push q2 h
      have := ev_len (F := F) ts (F (-t - 1).toNatClampNeg :: st) hts h2
      simp only [ev, tSt, if_neg q, if_pos q2]
      exact this
    · obtain ⟨h1, h2⟩ := hgt_un (Or.inl q) h
      subst q
      match st, h1, h2 with
      | b :: r, _, h2 => exact ev_len (F := F) ts ((if b = 0 then 1 else 0) :: r) hts h2
    · obtain ⟨h1, h2⟩ := hgt_un (Or.inr q) h
      subst q
      match st, h1, h2 with
      | b :: r, _, h2 => exact ev_len (F := F) ts ((-b) :: r) hts h2
    · obtain ⟨h1, h2⟩ := hgt_bin q h
      obtain ⟨a1, a2, a3, a4, -⟩ := bin_facts q
      match st, h1, h2 with
      | b :: a :: r, _, h2 =>
        have := ev_len (F := F) ts (tWork (-t) a b :: r) hts h2
        simp only [ev, tSt, if_neg a1, if_neg a2, if_neg a3, if_neg a4]
        exact this
section
variable {J : xJ} {d : Nat} {b : xB} {sc : xSn} {Q : xP}
/-- the class: signs that stand behind each other -/
theorem c_seg {I0 : xI} {F : Nat → Int32} {C : List Int32} (hC : C.length ≤ 121) (hn : I0 2 3 = nI C.length) (hc : ∀ (k : Nat) (t : Int32), C[k]? = some t → I0 3 k = t) (hF : ∀ j : Nat, j < 6 → I0 4 j = F j) {m' : Nat} : ∀ (ts : List Int32) (i m : Nat) (st : List Int32) (I : xI), (∀ (k : Nat) (t : Int32), ts[k]? = some t → C[i + k]? = some t) → (∀ t ∈ ts, tokOk t) → m = st.length → m ≤ 40 → hgt 40 ts m = some m' → rep (I 5) st → xFr [5] I0 I → (∀ I1, xFr [5] I0 I1 → rep (I1 5) (ev F ts st) → ∀ a3, WP 5 (1000000, 0, 0) none M_X6_written Q 4 [some (.ref 2), some (.int (nI m')), some (.int (nI (i + ts.length))), a3] [] xG1 I1 J) → ∀ a3, WP 5 (1000000, 0, 0) none M_X6_written Q 4 [some (.ref 2), some (.int (nI m)), some (.int (nI i)), a3] [] xG1 I J := by
  intro ts
  induction ts with
  | nil =>
    intro i m st I h1 h2 h3 h4 h5 h6 h7 k a3
    have e : m' = m := by simp [hgt] at h5; exact h5.symm
    subst e
    exact k I h7 h6 a3
  | cons t ts ih =>
    intro i m st I h1 h2 h3 h4 h5 h6 h7 k a3
    have ht := h1 0 t rfl
    have hi : i < C.length := (List.getElem?_eq_some_iff.mp ht).1
    have f23 : I 2 3 = nI C.length := by rw [h7 2 (by decide)]; exact hn
    have f3 : I 3 i = t := by rw [h7 3 (by decide)]; exact hc _ _ ht
    have f4 : ∀ j : Nat, j < 6 → I 4 j = F j := fun j hj => by rw [h7 4 (by decide)]; exact hF j hj
    have t9 : ¬ I 2 3 ≤ nI i := by rw [f23]; exact nI_ge hi (by omega)
    have t18 : ¬ (64 : Int32) ≤ nI m := nI_ge (b := 64) (by omega) (by omega)
    have e1 : nI i + (1) = nI (i + 1) := nI_1 _
    have em : nI m + (1) = nI (m + 1) := nI_1 _
    have el : i + 1 + ts.length = i + (ts.length + 1) := by omega
    have hts := fun x hx => h2 x (List.mem_cons_of_mem _ hx)
    have h1' : ∀ (k : Nat) (t : Int32), ts[k]? = some t → C[i + 1 + k]? = some t := fun k t hk => by rw [show i + 1 + k = i + (k + 1) by omega]; exact h1 (k + 1) t hk
    simp only [List.length_cons] at k
    rcases tok_cases (h2 t List.mem_cons_self) with q | ⟨q, q2⟩ | q | q | q
    · obtain ⟨g1, g2⟩ := hgt_push (Int32.le_trans (by decide) q) h5
      have eE : ev F (t :: ts) st = ev F ts (t :: st) := by simp only [ev, tSt, if_pos q]
      rw [eE] at k
      refine iX6_written_4 (iX6_written_5 (iX6_written_6 (iX6_written_9 (fun h9 => absurd h9 (t9)) (fun h9 => ?_))))
      refine iX6_written_12 (iX6_written_13 (iX6_written_14 (iX6_written_17 (iX6_written_18 (fun h18 => absurd h18 (t18)) (fun h18 => ?_)))))
      refine iX6_written_21 (iX6_written_22 (iX6_written_25 (iX6_written_26 (vp_in_nI (by omega) (by omega)) ?_)))
      rw [nI_clamp (by omega), f3]
      refine iX6_written_27 (iX6_written_28 (iX6_written_29 (iX6_written_30 (fun h30 => absurd h30 (neg_pos q)) (fun h30 => ?_))))
      refine iX6_written_33 (iX6_written_34 (iX6_written_37 (iX6_written_38 (iX6_written_41 (iX6_written_42 (iX6_written_45 (iX6_written_46 (vp_in_nI (by omega) (by omega)) (iX6_written_47 (vp_in_nI (by omega) (by omega)) (iX6_written_48 (iX6_written_224 (iX6_written_227 ?_)))))))))))
      rw [nI_clamp (by omega), nI_clamp (by omega), f3, em, e1, h3]
      refine ih (i + 1) (st.length + 1) (t :: st) _ h1' hts rfl (by omega) (by rw [← h3]; exact g2) (rep_up h6) (h7.up (by decide)) ?_ _
      rw [el]
      exact k
    · obtain ⟨g1, g2⟩ := hgt_push q2 h5
      have eE : ev F (t :: ts) st = ev F ts (F (-t - 1).toNatClampNeg :: st) := by simp only [ev, tSt, if_neg q, if_pos q2]
      rw [eE] at k
      have T : 0 < -t ∧ ¬ 6 < -t ∧ vp_in (-t - 1) 6 := by
        have := neg_names q q2
        rcases this with rfl | rfl | rfl | rfl | rfl | rfl <;> exact ⟨by decide, by decide, vp_in_iff.mpr ⟨by decide, by decide⟩⟩
      obtain ⟨T1, T2, T3⟩ := T
      have T4 : (-t - 1).toNatClampNeg < 6 := Nat.not_le.mp fun w => T3 (Or.inr w)
      refine iX6_written_4 (iX6_written_5 (iX6_written_6 (iX6_written_9 (fun h9 => absurd h9 (t9)) (fun h9 => ?_))))
      refine iX6_written_12 (iX6_written_13 (iX6_written_14 (iX6_written_17 (iX6_written_18 (fun h18 => absurd h18 (t18)) (fun h18 => ?_)))))
      refine iX6_written_21 (iX6_written_22 (iX6_written_25 (iX6_written_26 (vp_in_nI (by omega) (by omega)) ?_)))
      rw [nI_clamp (by omega), f3]
      refine iX6_written_27 (iX6_written_28 (iX6_written_29 (iX6_written_30 (fun h30 => ?_) (fun h30 => absurd (T1) (by first | exact h30 | exact fun q => q h30)))))
      refine iX6_written_51 (iX6_written_52 (iX6_written_53 (iX6_written_56 (iX6_written_57 (fun h57 => absurd h57 (T2)) (fun h57 => ?_)))))
      refine iX6_written_60 (iX6_written_61 (iX6_written_64 (iX6_written_65 (iX6_written_68 (iX6_written_69 (iX6_written_72 (iX6_written_73 (iX6_written_74 (iX6_written_75 T3 (iX6_written_76 (vp_in_nI (by omega) (by omega)) (iX6_written_77 (iX6_written_224 (iX6_written_227 ?_)))))))))))))
      rw [nI_clamp (by omega), f4 _ T4, em, e1, h3]
      refine ih (i + 1) (st.length + 1) (F (-t - 1).toNatClampNeg :: st) _ h1' hts rfl (by omega) (by rw [← h3]; exact g2) (rep_up h6) (h7.up (by decide)) ?_ _
      rw [el]
      exact k
    · obtain ⟨g1, g2⟩ := hgt_un (Or.inl q) h5
      subst q
      match st, h3, h6, k, g1 with
      | v :: r, h3, h6, k, _ =>
      simp only [List.length_cons] at h3
      subst h3
      obtain ⟨h6a, h6b⟩ := h6
      have ep : nI (r.length + 1) - 1 = nI r.length := nI_pred _
      have n80 : (1 : Int32) ≤ nI (r.length + 1) := nI_le (a := 1) (by omega) (by omega)
      refine iX6_written_4 (iX6_written_5 (iX6_written_6 (iX6_written_9 (fun h9 => absurd h9 (t9)) (fun h9 => ?_))))
      refine iX6_written_12 (iX6_written_13 (iX6_written_14 (iX6_written_17 (iX6_written_18 (fun h18 => absurd h18 (t18)) (fun h18 => ?_)))))
      refine iX6_written_21 (iX6_written_22 (iX6_written_25 (iX6_written_26 (vp_in_nI (by omega) (by omega)) ?_)))
      rw [nI_clamp (by omega), f3]
      refine iX6_written_27 (iX6_written_28 (iX6_written_29 (iX6_written_30 (fun h30 => ?_) (fun h30 => absurd ((by decide : (0 : Int32) < -(-33))) (by first | exact h30 | exact fun q => q h30)))))
      refine iX6_written_51 (iX6_written_52 (iX6_written_53 (iX6_written_56 (iX6_written_57 (fun h57 => ?_) (fun h57 => absurd ((by decide : (6 : Int32) < -(-33))) (by first | exact h57 | exact fun q => q h57))))))
      refine iX6_written_80 (iX6_written_81 (iX6_written_82 (fun h82 => ?_) (fun h82 => absurd (n80) (by first | exact h82 | exact fun q => q h82))))
      refine iX6_written_87 (iX6_written_88 (iX6_written_90 (fun h90 => ?_) (fun h90 => absurd ((by decide : ¬ -(-33 : Int32) = 59)) (by first | exact h90 | exact fun q => q h90))))
      refine iX6_written_102 (iX6_written_103 (iX6_written_105 (fun h105 => ?_) (fun h105 => absurd ((by decide : ¬ -(-33 : Int32) = 63)) (by first | exact h105 | exact fun q => q h105))))
      refine iX6_written_129 (iX6_written_130 (iX6_written_132 (fun h132 => absurd h132 ((fun w => w (by decide : -(-33 : Int32) = 33)))) (fun h132 => ?_)))
      refine iX6_written_135 (iX6_written_136 (iX6_written_139 (iX6_written_140 (iX6_written_141 ?_))))
      rw [ep]
      refine iX6_written_142 (iX6_written_143 (iX6_written_146 (iX6_written_147 (iX6_written_148 ?_))))
      rw [ep]
      refine iX6_written_149 (vp_in_nI (by omega) (by omega)) ?_
      rw [nI_clamp (by omega), h6a]
      refine iX6_written_150 (fun h150 => ?_) (fun h150 => ?_)
      · refine iX6_written_157 (iX6_written_158 (vp_in_nI (by omega) (by omega)) (iX6_written_159 (iX6_written_224 (iX6_written_227 ?_))))
        rw [nI_clamp (by omega), e1]
        refine ih (i + 1) (r.length + 1) ((if v = 0 then 1 else 0) :: r) _ h1' hts rfl h4 g2 ?_ (h7.up (by decide)) ?_ _
        · first | rw [if_neg ‹_›] | rw [if_pos ‹_›] | rw [if_pos (Decidable.not_not.mp ‹_›)]
          exact rep_up h6b
        · rw [el]
          exact k
      · refine iX6_written_153 (iX6_written_154 (iX6_written_158 (vp_in_nI (by omega) (by omega)) (iX6_written_159 (iX6_written_224 (iX6_written_227 ?_)))))
        rw [nI_clamp (by omega), e1]
        refine ih (i + 1) (r.length + 1) ((if v = 0 then 1 else 0) :: r) _ h1' hts rfl h4 g2 ?_ (h7.up (by decide)) ?_ _
        · first | rw [if_neg ‹_›] | rw [if_pos ‹_›] | rw [if_pos (Decidable.not_not.mp ‹_›)]
          exact rep_up h6b
        · rw [el]
          exact k
    · obtain ⟨g1, g2⟩ := hgt_un (Or.inr q) h5
      subst q
      match st, h3, h6, k, g1 with
      | v :: r, h3, h6, k, _ =>
      simp only [List.length_cons] at h3
      subst h3
      obtain ⟨h6a, h6b⟩ := h6
      have ep : nI (r.length + 1) - 1 = nI r.length := nI_pred _
      have n80 : (1 : Int32) ≤ nI (r.length + 1) := nI_le (a := 1) (by omega) (by omega)
      refine iX6_written_4 (iX6_written_5 (iX6_written_6 (iX6_written_9 (fun h9 => absurd h9 (t9)) (fun h9 => ?_))))
      refine iX6_written_12 (iX6_written_13 (iX6_written_14 (iX6_written_17 (iX6_written_18 (fun h18 => absurd h18 (t18)) (fun h18 => ?_)))))
      refine iX6_written_21 (iX6_written_22 (iX6_written_25 (iX6_written_26 (vp_in_nI (by omega) (by omega)) ?_)))
      rw [nI_clamp (by omega), f3]
      refine iX6_written_27 (iX6_written_28 (iX6_written_29 (iX6_written_30 (fun h30 => ?_) (fun h30 => absurd ((by decide : (0 : Int32) < -(-126))) (by first | exact h30 | exact fun q => q h30)))))
      refine iX6_written_51 (iX6_written_52 (iX6_written_53 (iX6_written_56 (iX6_written_57 (fun h57 => ?_) (fun h57 => absurd ((by decide : (6 : Int32) < -(-126))) (by first | exact h57 | exact fun q => q h57))))))
      refine iX6_written_80 (iX6_written_81 (iX6_written_82 (fun h82 => ?_) (fun h82 => absurd (n80) (by first | exact h82 | exact fun q => q h82))))
      refine iX6_written_87 (iX6_written_88 (iX6_written_90 (fun h90 => ?_) (fun h90 => absurd ((by decide : ¬ -(-126 : Int32) = 59)) (by first | exact h90 | exact fun q => q h90))))
      refine iX6_written_102 (iX6_written_103 (iX6_written_105 (fun h105 => ?_) (fun h105 => absurd ((by decide : ¬ -(-126 : Int32) = 63)) (by first | exact h105 | exact fun q => q h105))))
      refine iX6_written_129 (iX6_written_130 (iX6_written_132 (fun h132 => ?_) (fun h132 => absurd ((by decide : ¬ -(-126 : Int32) = 33)) (by first | exact h132 | exact fun q => q h132))))
      refine iX6_written_162 (iX6_written_163 (iX6_written_165 (fun h165 => absurd h165 ((fun w => w (by decide : -(-126 : Int32) = 126)))) (fun h165 => ?_)))
      refine iX6_written_168 (iX6_written_169 (iX6_written_172 (iX6_written_173 (iX6_written_174 ?_))))
      rw [ep]
      refine iX6_written_175 (iX6_written_176 (iX6_written_179 (iX6_written_180 (iX6_written_181 ?_))))
      rw [ep]
      refine iX6_written_182 (vp_in_nI (by omega) (by omega)) ?_
      rw [nI_clamp (by omega), h6a]
      refine iX6_written_183 (iX6_written_184 (vp_in_nI (by omega) (by omega)) (iX6_written_185 (iX6_written_224 (iX6_written_227 ?_))))
      rw [nI_clamp (by omega), e1]
      refine ih (i + 1) (r.length + 1) ((-v) :: r) _ h1' hts rfl h4 g2 (rep_up h6b) (h7.up (by decide)) ?_ _
      rw [el]
      exact k
    · obtain ⟨g1, g2⟩ := hgt_bin q h5
      obtain ⟨a1, a2, a3', a4, b1, b2, b3, b4, b5, b6, b7, -⟩ := bin_facts q
      match st, h3, h6, k, g1 with
      | y :: x :: r, h3, h6, k, _ =>
      simp only [List.length_cons] at h3
      subst h3
      obtain ⟨h6a, h6b, h6c⟩ := h6
      have eE : ev F (t :: ts) (y :: x :: r) = ev F ts (tWork (-t) x y :: r) := by simp only [ev, tSt, if_neg a1, if_neg a2, if_neg a3', if_neg a4]
      rw [eE] at k
      have ep : nI (r.length + 1) - 1 = nI r.length := nI_pred _
      have ep2 : nI (r.length + 1 + 1) + (-1) = nI (r.length + 1) := pk_m1 _
      have n80 : (1 : Int32) ≤ nI (r.length + 1 + 1) := nI_le (a := 1) (by omega) (by omega)
      have n190 : (2 : Int32) ≤ nI (r.length + 1 + 1) := nI_le (a := 2) (by omega) (by omega)
      refine iX6_written_4 (iX6_written_5 (iX6_written_6 (iX6_written_9 (fun h9 => absurd h9 (t9)) (fun h9 => ?_))))
      refine iX6_written_12 (iX6_written_13 (iX6_written_14 (iX6_written_17 (iX6_written_18 (fun h18 => absurd h18 (t18)) (fun h18 => ?_)))))
      refine iX6_written_21 (iX6_written_22 (iX6_written_25 (iX6_written_26 (vp_in_nI (by omega) (by omega)) ?_)))
      rw [nI_clamp (by omega), f3]
      refine iX6_written_27 (iX6_written_28 (iX6_written_29 (iX6_written_30 (fun h30 => ?_) (fun h30 => absurd (b1) (by first | exact h30 | exact fun q => q h30)))))
      refine iX6_written_51 (iX6_written_52 (iX6_written_53 (iX6_written_56 (iX6_written_57 (fun h57 => ?_) (fun h57 => absurd (b2) (by first | exact h57 | exact fun q => q h57))))))
      refine iX6_written_80 (iX6_written_81 (iX6_written_82 (fun h82 => ?_) (fun h82 => absurd (n80) (by first | exact h82 | exact fun q => q h82))))
      refine iX6_written_87 (iX6_written_88 (iX6_written_90 (fun h90 => ?_) (fun h90 => absurd (b3) (by first | exact h90 | exact fun q => q h90))))
      refine iX6_written_102 (iX6_written_103 (iX6_written_105 (fun h105 => ?_) (fun h105 => absurd (b4) (by first | exact h105 | exact fun q => q h105))))
      refine iX6_written_129 (iX6_written_130 (iX6_written_132 (fun h132 => ?_) (fun h132 => absurd (b5) (by first | exact h132 | exact fun q => q h132))))
      refine iX6_written_162 (iX6_written_163 (iX6_written_165 (fun h165 => ?_) (fun h165 => absurd (b6) (by first | exact h165 | exact fun q => q h165))))
      refine iX6_written_188 (iX6_written_189 (iX6_written_190 (fun h190 => ?_) (fun h190 => absurd (n190) (by first | exact h190 | exact fun q => q h190))))
      refine iX6_written_195 ?_
      rw [ep2]
      refine iX6_written_198 (iX6_written_199 (iX6_written_202 (iX6_written_203 (iX6_written_204 ?_))))
      rw [ep]
      refine iX6_written_205 (iX6_written_206 (iX6_written_207 (iX6_written_210 (iX6_written_211 (iX6_written_212 ?_)))))
      rw [ep]
      refine iX6_written_213 (vp_in_nI (by omega) (by omega)) ?_
      rw [nI_clamp (by omega), h6b]
      refine iX6_written_214 (iX6_written_215 (iX6_written_218 (iX6_written_219 (vp_in_nI (by omega) (by omega)) ?_)))
      rw [nI_clamp (by omega), show I 5 (r.length + 1) = y from h6a]
      refine iX6_written_220 (s_X6_worked _ _ _) (iX6_written_223 (vp_in_nI (by omega) (by omega)) (iX6_written_224 (iX6_written_227 ?_)))
      rw [nI_clamp (by omega), e1]
      refine ih (i + 1) (r.length + 1) (tWork (-t) x y :: r) _ h1' hts rfl (by omega) g2 (rep_up h6c) (h7.up (by decide)) ?_ _
      rw [el]
      exact k
end
