/-! ===== leagues ===== -/
def bit (x p : Nat) : Nat := x / 2 ^ p % 2
theorem bit_shift {x p : Nat} (hx : x < 1024) (hp : p < 10) : (nI x >>> (nI p &&& 31)) &&& 1 = nI (bit x p) := by
  have : ∀ x : Nat, x < 1024 → ∀ p : Nat, p < 10 → (nI x >>> (nI p &&& 31)) &&& 1 = nI (bit x p) := by decide +kernel
  exact this x hx p hp
theorem bit_01 (x p : Nat) : bit x p = 0 ∨ bit x p = 1 := by unfold bit; omega
def mem (P : Nat → Nat) (x : Nat) : Nat → Nat
  | 0 => 0
  | k + 1 => mem P x k + bit x (P k)
theorem mem_le (P : Nat → Nat) (x : Nat) : ∀ k, mem P x k ≤ k
  | 0 => Nat.le_refl _
  | k + 1 => by have := mem_le P x k; have := bit_01 x (P k); simp only [mem]; omega
def thr (P : Nat → Nat) : Nat → Nat
  | 0 => 0
  | k + 1 => thr P k ||| 2 ^ P k
def pty (I : xI) (k : Nat) : Nat := (I 12 k).toNatClampNeg
section
variable {I : xI} {J : xJ}
theorem pty_of (h : ivSens I) {k : Nat} (hk : k < 6) : I 12 k = nI (pty I k) ∧ pty I k < 3 ∧ I 63 k = nI (pty I k) := by
  obtain ⟨a1, a2, a3, a4, a5, a6⟩ := h k hk
  have e := clamp_nI a5
  refine ⟨e.symm, clamp_lt' (N := 3) (by decide) a5 (by grind), by rw [a2]; exact e.symm⟩
theorem f_get_sen {s : Nat} {n : Nat} (hn : I 1 3 = nI n) (hs : s < n) (hn6 : n ≤ 6) {w : Nat} (hw : w = 4 ∨ w = 5) : f_get I (nI s) (nI w) = I (7 + w) s := by
  have h1 : f_has I (nI s) (nI w) = 1 := by
    have e1 : ¬ nI s < 0 := nI_pos (by omega)
    have e2 : nI s < nI n := nI_lt hs (by omega)
    unfold f_has
    rw [hn]
    rcases hw with rfl | rfl
    · rw [if_neg (by have : ¬ nI 4 < 0 := by decide
                     have : ¬ 9 < nI 4 := by decide
                     grind), if_neg (by decide), if_pos (by decide), if_pos e2]
    · rw [if_neg (by have : ¬ nI 5 < 0 := by decide
                     have : ¬ 9 < nI 5 := by decide
                     grind), if_neg (by decide), if_pos (by decide), if_pos e2]
  rw [f_get_1 h1, nI_clamp (by omega), nI_clamp (by omega)]
theorem s_X5_members {x n : Nat} (hx : x < 8) (hse : ivSens I) (hn : I 1 3 = nI n) (hn6 : n ≤ 6) (hB : I 1 2 ≤ 10) : SpecF 2 M_X5_members [.ref 1, .int (nI x)] xG1 I J (some (.int (nI (mem (pty I) x n)))) I J := by
  refine specF_of (L := [some (.ref 1), some (.int (nI x)), none, none]) (by decide) (Nat.le_of_ble_eq_true rfl) rfl ?_
  have hS : I 1 3 ≤ 6 := by rw [hn]; exact nI_le (b := 6) (by omega) (by omega)
  have key : ∀ m i : Nat, i + m = n → WP 2 (1000000, 0, 0) none M_X5_members (fun r2 g2 I2 J2 => r2 = some (.int (nI (mem (pty I) x n))) ∧ g2 = xG1 ∧ I2 = I ∧ J2 = J) 4 [some (.ref 1), some (.int (nI x)), some (.int (nI (mem (pty I) x i))), some (.int (nI i))] [] xG1 I J := by
    intro m
    induction m with
    | zero =>
      intro i hi
      obtain rfl : i = n := by omega
      have t9 : I 1 3 ≤ nI i := by rw [hn]; exact Int32.le_refl _
      refine iX5_members_4 (iX5_members_5 (iX5_members_6 (iX5_members_9 (fun h9 => ?_) (fun h9 => absurd (t9) (by first | exact h9 | exact fun q => q h9)))))
      refine iX5_members_31 (iX5_members_32 ?_)
      exact ⟨rfl, rfl, rfl, rfl⟩
    | succ m ih =>
      intro i hi
      have t9 : ¬ I 1 3 ≤ nI i := by rw [hn]; exact nI_ge (by omega) (by omega)
      obtain ⟨p1, p2, p3⟩ := pty_of hse (k := i) (by omega)
      have sg := s_X5_get (I := I) (J := J) (nI i) 5 hB hS
      have eg : f_get I (nI i) 5 = nI (pty I i) := by
        have := f_get_sen (I := I) hn (s := i) (by omega) hn6 (w := 5) (Or.inr rfl)
        rw [← p1]
        exact this
      rw [eg] at sg
      refine iX5_members_4 (iX5_members_5 (iX5_members_6 (iX5_members_9 (fun h9 => absurd h9 (t9)) (fun h9 => ?_))))
      refine iX5_members_12 (iX5_members_13 (iX5_members_14 (iX5_members_15 (iX5_members_16 (iX5_members_17 sg (iX5_members_20 (iX5_members_21 (iX5_members_22 (iX5_members_23 (iX5_members_24 (iX5_members_25 (iX5_members_28 ?_))))))))))))
      rw [bit_shift (by omega) (by omega), nI_add]
      have e1 : nI i + (1) = nI (i + 1) := nI_1 _
      rw [e1]
      exact ih (i + 1) (by omega)
  refine iX5_members_0 (iX5_members_1 (iX5_members_2 (iX5_members_3 ?_)))
  exact key n 0 (by omega)
def isL (P : Nat → Nat) (n x : Nat) : Prop := (∀ p : Nat, p < 3 → bit x p = 1 → mem P (2 ^ p) n ≠ 0) ∧ n < 2 * mem P x n
theorem s_X5_isLeague {x n : Nat} (hx : x < 8) (hse : ivSens I) (hn : I 1 3 = nI n) (hn6 : n ≤ 6) (hB : I 1 2 ≤ 10) : (isL (pty I) n x → SpecF 3 M_X5_isLeague [.ref 1, .int (nI x)] xG1 I J (some (.int 1)) I J) ∧ (¬ isL (pty I) n x → SpecF 3 M_X5_isLeague [.ref 1, .int (nI x)] xG1 I J (some (.int 0)) I J) := by
  have tail : ∀ v : Int32, (v = if n < 2 * mem (pty I) x n then 1 else 0) → ∀ q, WP 3 (1000000, 0, 0) none M_X5_isLeague (fun r2 g2 I2 J2 => r2 = some (.int v) ∧ g2 = xG1 ∧ I2 = I ∧ J2 = J) 34 [some (.ref 1), some (.int (nI x)), some (.int q)] [] xG1 I J := by
    intro v hv q
    have hm := mem_le (pty I) x n
    have e40 : (2 : Int32) * nI (mem (pty I) x n) = nI (2 * mem (pty I) x n) := pk_mul 2 _
    have q45 : nI (2 * mem (pty I) x n) ≤ nI n ↔ 2 * mem (pty I) x n ≤ n := nI_leI (by omega) (by omega)
    refine iX5_isLeague_34 (iX5_isLeague_35 (iX5_isLeague_36 (iX5_isLeague_37 (s_X5_members hx hse hn hn6 hB) (iX5_isLeague_40 ?_))))
    rw [e40]
    refine iX5_isLeague_41 (iX5_isLeague_42 ?_)
    rw [hn]
    refine iX5_isLeague_45 (fun h45 => ?_) (fun h45 => ?_)
    · refine iX5_isLeague_52 (iX5_isLeague_53 ?_)
      refine ⟨congrArg (fun z => some (Value.int z)) ?_, rfl, rfl, rfl⟩
      rw [hv]
      rw [q45] at h45
      first | rw [if_pos (by omega)] | rw [if_neg (by omega)]
    · refine iX5_isLeague_48 (iX5_isLeague_49 (iX5_isLeague_53 ?_))
      refine ⟨congrArg (fun z => some (Value.int z)) ?_, rfl, rfl, rfl⟩
      rw [hv]
      rw [q45] at h45
      first | rw [if_pos (by omega)] | rw [if_neg (by omega)]
  have key : ∀ v : Int32, ∀ m i : Nat, i + m = 3 → (∀ p : Nat, p < i → bit x p = 1 → mem (pty I) (2 ^ p) n ≠ 0) → (isL (pty I) n x → v = 1) → (¬ isL (pty I) n x → v = 0) → WP 3 (1000000, 0, 0) none M_X5_isLeague (fun r2 g2 I2 J2 => r2 = some (.int v) ∧ g2 = xG1 ∧ I2 = I ∧ J2 = J) 2 [some (.ref 1), some (.int (nI x)), some (.int (nI i))] [] xG1 I J := by
    intro v m
    induction m with
    | zero =>
      intro i hi hp h1 h0
      obtain rfl : i = 3 := by omega
      refine iX5_isLeague_2 (iX5_isLeague_3 (iX5_isLeague_4 (fun h4 => ?_) (fun h4 => absurd (Int32.le_refl _) (by first | exact h4 | exact fun q => q h4))))
      refine tail v ?_ _
      by_cases q : n < 2 * mem (pty I) x n
      · rw [if_pos q]; exact h1 ⟨hp, q⟩
      · rw [if_neg q]; exact h0 (fun w => q w.2)
    | succ m ih =>
      intro i hi hp h1 h0
      have t2 : ∀ i : Nat, i < 3 → (1 : Int32) <<< (nI i &&& 31) = nI (2 ^ i) ∧ 2 ^ i < 8 := by decide +kernel
      obtain ⟨u1, u2⟩ := t2 i (by omega)
      have hml := mem_le (pty I) (2 ^ i) n
      have q13 : nI (bit x i) = 1 ↔ bit x i = 1 := nI_eq (b := 1) (by have := bit_01 x i; omega) (by omega)
      have q23 : nI (mem (pty I) (2 ^ i) n) = 0 ↔ mem (pty I) (2 ^ i) n = 0 := nI_eq (b := 0) (by omega) (by omega)
      refine iX5_isLeague_2 (iX5_isLeague_3 (iX5_isLeague_4 (fun h4 => absurd h4 (nI_ge (b := 3) (a := i) (by omega) (by omega))) (fun h4 => ?_)))
      refine iX5_isLeague_7 (iX5_isLeague_8 (iX5_isLeague_9 (iX5_isLeague_10 (iX5_isLeague_11 (iX5_isLeague_12 ?_)))))
      rw [bit_shift (by omega) (by omega)]
      refine iX5_isLeague_13 (fun h13 => ?_) (fun h13 => ?_)
      · refine iX5_isLeague_28 (iX5_isLeague_31 ?_)
        have e1 : nI i + (1) = nI (i + 1) := nI_1 _
        rw [e1]
        refine ih (i + 1) (by omega) (fun p hp2 hb => ?_) h1 h0
        by_cases e : p = i
        · subst e; grind
        · exact hp p (by omega) hb
      · refine iX5_isLeague_16 (iX5_isLeague_17 (iX5_isLeague_18 (iX5_isLeague_19 ?_)))
        rw [u1]
        refine iX5_isLeague_20 (s_X5_members u2 hse hn hn6 hB) (iX5_isLeague_23 (fun h23 => ?_) (fun h23 => ?_))
        · refine iX5_isLeague_28 (iX5_isLeague_31 ?_)
          have e1 : nI i + (1) = nI (i + 1) := nI_1 _
          rw [e1]
          refine ih (i + 1) (by omega) (fun p hp2 hb => ?_) h1 h0
          by_cases e : p = i
          · subst e; grind
          · exact hp p (by omega) hb
        · refine iX5_isLeague_26 (iX5_isLeague_27 ?_)
          refine ⟨?_, rfl, rfl, rfl⟩
          rw [h0 (fun w => w.1 i (by omega) (q13.mp (Decidable.not_not.mp h13)) (q23.mp (Decidable.not_not.mp h23)))]
  refine ⟨fun h => ?_, fun h => ?_⟩
  · refine specF_of (L := [some (.ref 1), some (.int (nI x)), none]) (by decide) (Nat.le_of_ble_eq_true rfl) rfl ?_
    refine iX5_isLeague_0 (iX5_isLeague_1 ?_)
    exact key 1 3 0 (by omega) (fun p hp => absurd hp (by omega)) (fun _ => rfl) (fun w => absurd h w)
  · refine specF_of (L := [some (.ref 1), some (.int (nI x)), none]) (by decide) (Nat.le_of_ble_eq_true rfl) rfl ?_
    refine iX5_isLeague_0 (iX5_isLeague_1 ?_)
    exact key 0 3 0 (by omega) (fun p hp => absurd hp (by omega)) (fun w => absurd w h) (fun _ => rfl)
end
