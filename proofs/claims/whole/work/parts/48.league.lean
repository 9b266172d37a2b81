/-! ===== leagues ===== -/
def bit (x p : Nat) : Nat := x / 2 ^ p % 2
theorem bit_shift {x p : Nat} (hx : x < 1024) (hp : p < 10) : (nI x >>> (nI p &&& 31)) &&& 1 = nI (bit x p) := by
  have : ∀ x : Nat, x < 1024 → ∀ p : Nat, p < 10 → (nI x >>> (nI p &&& 31)) &&& 1 = nI (bit x p) := by decide +kernel
  exact this x hx p hp
theorem bit_01 (x p : Nat) : bit x p = 0 ∨ bit x p = 1 := by unfold bit; omega
def mem (P : Nat → Nat) (x : Nat) : Nat → Nat
  | 0 => 0
  | k + 1 => mem P x k + bit x (P k)
theorem mem_le (P : Nat → Nat) (x : Nat) : ∀ k, mem P x k ≤ k
  | 0 => Nat.le_refl _
  | k + 1 => by have := mem_le P x k; have := bit_01 x (P k); simp only [mem]; omega
def thr (P : Nat → Nat) : Nat → Nat
  | 0 => 0
  | k + 1 => thr P k ||| 2 ^ P k
def pty (I : xI) (k : Nat) : Nat := (I 12 k).toNatClampNeg
section
variable {I : xI} {J : xJ}
theorem pty_of (h : ivSens I) {k : Nat} (hk : k < 6) : I 12 k = nI (pty I k) ∧ pty I k < 3 ∧ I 63 k = nI (pty I k) := by
  obtain ⟨a1, a2, a3, a4, a5, a6⟩ := h k hk
  have e := clamp_nI a5
  refine ⟨e.symm, clamp_lt' (N := 3) (by decide) a5 (by grind), by rw [a2]; exact e.symm⟩
theorem f_get_sen {s : Nat} {n : Nat} (hn : I 1 3 = nI n) (hs : s < n) (hn6 : n ≤ 6) {w : Nat} (hw : w = 4 ∨ w = 5) : f_get I (nI s) (nI w) = I (7 + w) s := by
  have h1 : f_has I (nI s) (nI w) = 1 := by
    have e1 : ¬ nI s < 0 := nI_pos (by omega)
    have e2 : nI s < nI n := nI_lt hs (by omega)
    have e3 : ¬ nI w < 0 := nI_pos (by omega)
    have e4 : ¬ 9 < nI w := nI_nlt (b := w) (a := 9) (by omega) (by omega)
    have e5 : ¬ nI w ≤ 3 := nI_ge (a := 3) (b := w) (by omega) (by omega)
    have e6 : nI w ≤ 5 := nI_le (b := 5) (by omega) (by omega)
    unfold f_has
    rw [hn, if_neg (show ¬ (nI w < 0 ∨ 9 < nI w ∨ nI s < 0) by rintro (z | z | z); exact e3 z; exact e4 z; exact e1 z), if_neg e5, if_pos e6, if_pos e2]
  rw [f_get_1 h1, nI_clamp (by omega), nI_clamp (by omega)]
theorem s_X5_members {x n : Nat} (hx : x < 8) (hse : ivSens I) (hn : I 1 3 = nI n) (hn6 : n ≤ 6) (hB : I 1 2 ≤ 10) : SpecF 2 M_X5_members [.ref 1, .int (nI x)] xG1 I J (some (.int (nI (mem (pty I) x n)))) I J := by
  refine specF_of (L := [some (.ref 1), some (.int (nI x)), none, none]) (by decide) (Nat.le_of_ble_eq_true rfl) rfl ?_
  have hS : I 1 3 ≤ 6 := by rw [hn]; exact nI_le (b := 6) (by omega) (by omega)
  have key : ∀ m i : Nat, i + m = n → WP 2 (1000000, 0, 0) none M_X5_members (fun r2 g2 I2 J2 => r2 = some (.int (nI (mem (pty I) x n))) ∧ g2 = xG1 ∧ I2 = I ∧ J2 = J) 4 [some (.ref 1), some (.int (nI x)), some (.int (nI (mem (pty I) x i))), some (.int (nI i))] [] xG1 I J := by
    intro m
    induction m with
    | zero =>
      intro i hi
      obtain rfl : i = n := by omega
      have t9 : I 1 3 ≤ nI i := by rw [hn]; exact Int32.le_refl _
      refine iX5_members_4 (iX5_members_5 (iX5_members_6 (iX5_members_9 (fun h9 => ?_) (fun h9 => absurd (t9) (by first | exact h9 | exact fun q => q h9)))))
      refine iX5_members_31 (iX5_members_32 ?_)
      exact ⟨rfl, rfl, rfl, rfl⟩
    | succ m ih =>
      intro i hi
      have t9 : ¬ I 1 3 ≤ nI i := by rw [hn]; exact nI_ge (by omega) (by omega)
      obtain ⟨p1, p2, p3⟩ := pty_of hse (k := i) (by omega)
      have sg := s_X5_get (I := I) (J := J) (nI i) 5 hB hS
      have eg : f_get I (nI i) 5 = nI (pty I i) := by
        have := f_get_sen (I := I) hn (s := i) (by omega) hn6 (w := 5) (Or.inr rfl)
        rw [← p1]
        exact this
      rw [eg] at sg
      refine iX5_members_4 (iX5_members_5 (iX5_members_6 (iX5_members_9 (fun h9 => absurd h9 (t9)) (fun h9 => ?_))))
      refine iX5_members_12 (iX5_members_13 (iX5_members_14 (iX5_members_15 (iX5_members_16 (iX5_members_17 sg (iX5_members_20 (iX5_members_21 (iX5_members_22 (iX5_members_23 (iX5_members_24 (iX5_members_25 (iX5_members_28 ?_))))))))))))
      rw [bit_shift (by omega) (by omega), nI_add]
      have e1 : nI i + (1) = nI (i + 1) := nI_1 _
      rw [e1]
      exact ih (i + 1) (by omega)
  refine iX5_members_0 (iX5_members_1 (iX5_members_2 (iX5_members_3 ?_)))
  exact key n 0 (by omega)
def isL (P : Nat → Nat) (n x : Nat) : Prop := (∀ p : Nat, p < 3 → bit x p = 1 → mem P (2 ^ p) n ≠ 0) ∧ n < 2 * mem P x n
theorem s_X5_isLeague {x n : Nat} (hx : x < 8) (hse : ivSens I) (hn : I 1 3 = nI n) (hn6 : n ≤ 6) (hB : I 1 2 ≤ 10) : (isL (pty I) n x → SpecF 3 M_X5_isLeague [.ref 1, .int (nI x)] xG1 I J (some (.int 1)) I J) ∧ (¬ isL (pty I) n x → SpecF 3 M_X5_isLeague [.ref 1, .int (nI x)] xG1 I J (some (.int 0)) I J) := by
  have tail : ∀ v : Int32, (v = if n < 2 * mem (pty I) x n then 1 else 0) → ∀ q, WP 3 (1000000, 0, 0) none M_X5_isLeague (fun r2 g2 I2 J2 => r2 = some (.int v) ∧ g2 = xG1 ∧ I2 = I ∧ J2 = J) 34 [some (.ref 1), some (.int (nI x)), some (.int q)] [] xG1 I J := by
    intro v hv q
    have hm := mem_le (pty I) x n
    have e40 : (2 : Int32) * nI (mem (pty I) x n) = nI (2 * mem (pty I) x n) := pk_mul 2 _
    have q45 : nI (2 * mem (pty I) x n) ≤ nI n ↔ 2 * mem (pty I) x n ≤ n := nI_leI (by omega) (by omega)
    refine iX5_isLeague_34 (iX5_isLeague_35 (iX5_isLeague_36 (iX5_isLeague_37 (s_X5_members hx hse hn hn6 hB) (iX5_isLeague_40 ?_))))
    rw [e40]
    refine iX5_isLeague_41 (iX5_isLeague_42 ?_)
    rw [hn]
    refine iX5_isLeague_45 (fun h45 => ?_) (fun h45 => ?_)
    · refine iX5_isLeague_52 (iX5_isLeague_53 ?_)
      refine ⟨congrArg (fun z => some (Value.int z)) ?_, rfl, rfl, rfl⟩
      rw [hv]
      rw [q45] at h45
      first | rw [if_pos (by omega)] | rw [if_neg (by omega)]
    · refine iX5_isLeague_48 (iX5_isLeague_49 (iX5_isLeague_53 ?_))
      refine ⟨congrArg (fun z => some (Value.int z)) ?_, rfl, rfl, rfl⟩
      rw [hv]
      rw [q45] at h45
      first | rw [if_pos (by omega)] | rw [if_neg (by omega)]
  have key : ∀ v : Int32, ∀ m i : Nat, i + m = 3 → (∀ p : Nat, p < i → bit x p = 1 → mem (pty I) (2 ^ p) n ≠ 0) → (isL (pty I) n x → v = 1) → (¬ isL (pty I) n x → v = 0) → WP 3 (1000000, 0, 0) none M_X5_isLeague (fun r2 g2 I2 J2 => r2 = some (.int v) ∧ g2 = xG1 ∧ I2 = I ∧ J2 = J) 2 [some (.ref 1), some (.int (nI x)), some (.int (nI i))] [] xG1 I J := by
    intro v m
    induction m with
    | zero =>
      intro i hi hp h1 h0
      obtain rfl : i = 3 := by omega
      refine iX5_isLeague_2 (iX5_isLeague_3 (iX5_isLeague_4 (fun h4 => ?_) (fun h4 => absurd (Int32.le_refl _) (by first | exact h4 | exact fun q => q h4))))
      refine tail v ?_ _
      by_cases q : n < 2 * mem (pty I) x n
      · rw [if_pos q]; exact h1 ⟨hp, q⟩
      · rw [if_neg q]; exact h0 (fun w => q w.2)
    | succ m ih =>
      intro i hi hp h1 h0
      have t2 : ∀ i : Nat, i < 3 → (1 : Int32) <<< (nI i &&& 31) = nI (2 ^ i) ∧ 2 ^ i < 8 := by decide +kernel
      obtain ⟨u1, u2⟩ := t2 i (by omega)
      have hml := mem_le (pty I) (2 ^ i) n
      have q13 : nI (bit x i) = 1 ↔ bit x i = 1 := nI_eq (b := 1) (by have := bit_01 x i; omega) (by omega)
      have q23 : nI (mem (pty I) (2 ^ i) n) = 0 ↔ mem (pty I) (2 ^ i) n = 0 := nI_eq (b := 0) (by omega) (by omega)
      refine iX5_isLeague_2 (iX5_isLeague_3 (iX5_isLeague_4 (fun h4 => absurd h4 (nI_ge (b := 3) (a := i) (by omega) (by omega))) (fun h4 => ?_)))
      refine iX5_isLeague_7 (iX5_isLeague_8 (iX5_isLeague_9 (iX5_isLeague_10 (iX5_isLeague_11 (iX5_isLeague_12 ?_)))))
      rw [bit_shift (by omega) (by omega)]
      refine iX5_isLeague_13 (fun h13 => ?_) (fun h13 => ?_)
      · refine iX5_isLeague_28 (iX5_isLeague_31 ?_)
        have e1 : nI i + (1) = nI (i + 1) := nI_1 _
        rw [e1]
        refine ih (i + 1) (by omega) (fun p hp2 hb => ?_) h1 h0
        by_cases e : p = i
        · subst e; grind
        · exact hp p (by omega) hb
      · refine iX5_isLeague_16 (iX5_isLeague_17 (iX5_isLeague_18 (iX5_isLeague_19 ?_)))
        rw [u1]
        refine iX5_isLeague_20 (s_X5_members u2 hse hn hn6 hB) (iX5_isLeague_23 (fun h23 => ?_) (fun h23 => ?_))
        · refine iX5_isLeague_28 (iX5_isLeague_31 ?_)
          have e1 : nI i + (1) = nI (i + 1) := nI_1 _
          rw [e1]
          refine ih (i + 1) (by omega) (fun p hp2 hb => ?_) h1 h0
          by_cases e : p = i
          · subst e; grind
          · exact hp p (by omega) hb
        · refine iX5_isLeague_26 (iX5_isLeague_27 ?_)
          refine ⟨?_, rfl, rfl, rfl⟩
          rw [h0 (fun w => w.1 i (by omega) (q13.mp h13) (q23.mp h23))]
  refine ⟨fun h => ?_, fun h => ?_⟩
  · refine specF_of (L := [some (.ref 1), some (.int (nI x)), none]) (by decide) (Nat.le_of_ble_eq_true rfl) rfl ?_
    refine iX5_isLeague_0 (iX5_isLeague_1 ?_)
    exact key 1 3 0 (by omega) (fun p hp => absurd hp (by omega)) (fun _ => rfl) (fun w => absurd h w)
  · refine specF_of (L := [some (.ref 1), some (.int (nI x)), none]) (by decide) (Nat.le_of_ble_eq_true rfl) rfl ?_
    refine iX5_isLeague_0 (iX5_isLeague_1 ?_)
    exact key 0 3 0 (by omega) (fun p hp => absurd hp (by omega)) (fun w => absurd w h) (fun _ => rfl)
end
/-! leagues: both go through the sets in order -/
theorem thr_spec {P : Nat → Nat} : ∀ k : Nat, (∀ s : Nat, s < k → P s < 3) → thr P k < 8 ∧ ∀ p : Nat, p < 3 → (bit (thr P k) p = 1 ↔ mem P (2 ^ p) k ≠ 0)
  | 0, _ => ⟨by simp [thr], fun p hp => by
      have : ∀ p : Nat, p < 3 → bit 0 p = 0 := by decide
      simp [thr, mem, this p hp]⟩
  | k + 1, h => by
    obtain ⟨h1, h2⟩ := thr_spec k (fun s hs => h s (by omega))
    have hq := h k (by omega)
    have T : ∀ a : Nat, a < 8 → ∀ q : Nat, q < 3 → (a ||| 2 ^ q) < 8 ∧ ∀ p : Nat, p < 3 → (bit (a ||| 2 ^ q) p = 1 ↔ bit a p = 1 ∨ bit (2 ^ p) q = 1) := by decide +kernel
    obtain ⟨t1, t2⟩ := T (thr P k) h1 (P k) hq
    refine ⟨t1, fun p hp => ?_⟩
    have := t2 p hp
    have := h2 p hp
    have := bit_01 (2 ^ p) (P k)
    simp only [thr, mem]
    omega
noncomputable def lgu (P : Nat → Nat) (n : Nat) : Nat → Nat × Option Nat
  | 0 => (0, none)
  | x + 1 => @ite _ (isL P n (x + 1)) (Classical.propDecidable _) ((lgu P n x).1 + 1, match (lgu P n x).2 with
    | none => some (x + 1)
    | some y => if mem P (x + 1) n < mem P y n then some (x + 1) else some y) (lgu P n x)
def oN : Option Nat → Int32
  | none => -2
  | some y => nI y
theorem lgu_le (P : Nat → Nat) (n : Nat) : ∀ x, (lgu P n x).1 ≤ x ∧ ∀ y, (lgu P n x).2 = some y → y ≤ x
  | 0 => ⟨Nat.le_refl _, fun y h => by simp [lgu] at h⟩
  | x + 1 => by
    obtain ⟨h1, h2⟩ := lgu_le P n x
    by_cases q : isL P n (x + 1)
    · simp only [lgu, if_pos q]
      refine ⟨by omega, fun y hy => ?_⟩
      cases e : (lgu P n x).2 with
      | none => rw [e] at hy; simp at hy; omega
      | some z =>
        have := h2 z e
        rw [e] at hy
        simp only at hy
        split at hy <;> simp at hy <;> omega
    · simp only [lgu, if_neg q]
      exact ⟨by omega, fun y hy => by have := h2 y hy; omega⟩
def fLg (P : Nat → Nat) (n : Nat) (what : Int32) (r : Nat × Option Nat) : Int32 := if what = 0 then nI r.1 else oN r.2
section
variable {I : xI} {J : xJ}
theorem c_leagues {n : Nat} {what : Int32} (hse : ivSens I) (hn : I 1 3 = nI n) (hn6 : n ≤ 6) (hB : I 1 2 ≤ 10) : ∀ m x : Nat, x + m = 7 → WP 1000 (1000000, 0, 0) none M_X11_leagues (fun r2 g2 I2 J2 => r2 = some (.int (fLg (pty I) n what (lgu (pty I) n 7))) ∧ g2 = xG1 ∧ I2 = I ∧ J2 = J) 17 [some (.ref 0), some (.int what), some (.int (nI (lgu (pty I) n x).1)), some (.int (oN (lgu (pty I) n x).2)), some (.int (nI (x + 1)))] [] xG1 I J := by
  intro m
  induction m with
  | zero =>
    intro x hx
    obtain rfl : x = 7 := by omega
    refine iX11_leagues_17 (iX11_leagues_19 (iX11_leagues_21 (fun h21 => ?_) (fun h21 => absurd ((by decide : (8 : Int32) ≤ nI (7 + 1))) (by first | exact h21 | exact fun q => q h21))))
    refine iX11_leagues_77 (iX11_leagues_78 (fun h78 => ?_) (fun h78 => ?_))
    · refine iX11_leagues_85 (iX11_leagues_86 ?_)
      exact ⟨by simp [fLg, *], rfl, rfl, rfl⟩
    · refine iX11_leagues_81 (iX11_leagues_82 (iX11_leagues_86 ?_))
      exact ⟨by simp [fLg, *], rfl, rfl, rfl⟩
  | succ m ih =>
    intro x hx
    have hx8 : x + 1 < 8 := by omega
    have hml := mem_le (pty I) (x + 1) n
    obtain ⟨b1, b2⟩ := lgu_le (pty I) n x
    have e1 : nI (x + 1) + (1) = nI (x + 1 + 1) := nI_1 _
    by_cases q : isL (pty I) n (x + 1)
    · have sp := (s_X5_isLeague (J := J) hx8 hse hn hn6 hB).1 q
      cases e : (lgu (pty I) n x).2 with
      | none =>
        have e2 : lgu (pty I) n (x + 1) = ((lgu (pty I) n x).1 + 1, some (x + 1)) := by simp only [lgu, if_pos q, e]
        have e3 : nI (lgu (pty I) n x).1 + (1) = nI (lgu (pty I) n (x + 1)).1 := by rw [e2]; exact nI_1 _
        have e4 : nI (x + 1) = oN (lgu (pty I) n (x + 1)).2 := by rw [e2]; rfl
        refine iX11_leagues_17 (iX11_leagues_19 (iX11_leagues_21 (fun h21 => absurd h21 (nI_ge (b := 8) (a := x + 1) (by omega) (by omega))) (fun h21 => ?_)))
        refine iX11_leagues_24 (iX11_leagues_25 (iX11_leagues_28 (iX11_leagues_30 sp (iX11_leagues_33 (fun h33 => ?_) (fun h33 => absurd ((by decide : ¬ (1 : Int32) = 0)) (by first | exact h33 | exact fun q => q h33))))))
        refine iX11_leagues_39 ?_
        rw [e3]
        refine iX11_leagues_42 (iX11_leagues_43 (iX11_leagues_45 (fun h45 => ?_) (fun h45 => absurd ((rfl : oN none = -2)) (by first | exact h45 | exact fun q => q h45))))
        refine iX11_leagues_68 (iX11_leagues_70 (iX11_leagues_71 (iX11_leagues_74 ?_)))
        rw [e1]
        have := ih (x + 1) (by omega)
        rw [← e4] at this
        exact this
      | some y =>
        have hy := b2 y e
        have ny : ¬ nI y = -2 := by
          have := nI_pos' (n := y) (by omega)
          grind
        have hmy := mem_le (pty I) y n
        have sx := s_X5_members (I := I) (J := J) hx8 hse hn hn6 hB
        have sy := s_X5_members (I := I) (J := J) (x := y) (by omega) hse hn hn6 hB
        by_cases ql : mem (pty I) (x + 1) n < mem (pty I) y n
        · have e2 : lgu (pty I) n (x + 1) = ((lgu (pty I) n x).1 + 1, some (x + 1)) := by simp only [lgu, if_pos q, e, if_pos ql]
          have e3 : nI (lgu (pty I) n x).1 + (1) = nI (lgu (pty I) n (x + 1)).1 := by rw [e2]; exact nI_1 _
          have e4 : nI (x + 1) = oN (lgu (pty I) n (x + 1)).2 := by rw [e2]; rfl
          refine iX11_leagues_17 (iX11_leagues_19 (iX11_leagues_21 (fun h21 => absurd h21 (nI_ge (b := 8) (a := x + 1) (by omega) (by omega))) (fun h21 => ?_)))
          refine iX11_leagues_24 (iX11_leagues_25 (iX11_leagues_28 (iX11_leagues_30 sp (iX11_leagues_33 (fun h33 => ?_) (fun h33 => absurd ((by decide : ¬ (1 : Int32) = 0)) (by first | exact h33 | exact fun q => q h33))))))
          refine iX11_leagues_39 ?_
          rw [e3]
          refine iX11_leagues_42 (iX11_leagues_43 (iX11_leagues_45 (fun h45 => absurd h45 (ny)) (fun h45 => ?_)))
          refine iX11_leagues_48 (iX11_leagues_49 (iX11_leagues_52 (iX11_leagues_54 sx (iX11_leagues_57 (iX11_leagues_58 (iX11_leagues_61 (iX11_leagues_62 sy (iX11_leagues_65 (fun h65 => absurd h65 (nI_ge ql (by omega))) (fun h65 => ?_)))))))))
          refine iX11_leagues_68 (iX11_leagues_70 (iX11_leagues_71 (iX11_leagues_74 ?_)))
          rw [e1]
          have := ih (x + 1) (by omega)
          rw [← e4] at this
          exact this
        · have e2 : lgu (pty I) n (x + 1) = ((lgu (pty I) n x).1 + 1, some y) := by simp only [lgu, if_pos q, e, if_neg ql]
          have e3 : nI (lgu (pty I) n x).1 + (1) = nI (lgu (pty I) n (x + 1)).1 := by rw [e2]; exact nI_1 _
          have e4 : oN (lgu (pty I) n (x + 1)).2 = oN (some y) := by rw [e2]
          refine iX11_leagues_17 (iX11_leagues_19 (iX11_leagues_21 (fun h21 => absurd h21 (nI_ge (b := 8) (a := x + 1) (by omega) (by omega))) (fun h21 => ?_)))
          refine iX11_leagues_24 (iX11_leagues_25 (iX11_leagues_28 (iX11_leagues_30 sp (iX11_leagues_33 (fun h33 => ?_) (fun h33 => absurd ((by decide : ¬ (1 : Int32) = 0)) (by first | exact h33 | exact fun q => q h33))))))
          refine iX11_leagues_39 ?_
          rw [e3]
          refine iX11_leagues_42 (iX11_leagues_43 (iX11_leagues_45 (fun h45 => absurd h45 (ny)) (fun h45 => ?_)))
          refine iX11_leagues_48 (iX11_leagues_49 (iX11_leagues_52 (iX11_leagues_54 sx (iX11_leagues_57 (iX11_leagues_58 (iX11_leagues_61 (iX11_leagues_62 sy (iX11_leagues_65 (fun h65 => ?_) (fun h65 => absurd (nI_le (a := mem (pty I) y n) (b := mem (pty I) (x + 1) n) (by omega) (by omega)) (by first | exact h65 | exact fun q => q h65))))))))))
          refine iX11_leagues_71 (iX11_leagues_74 ?_)
          rw [e1]
          have := ih (x + 1) (by omega)
          rw [e4] at this
          exact this
    · have sp := (s_X5_isLeague (J := J) hx8 hse hn hn6 hB).2 q
      have e2 : lgu (pty I) n (x + 1) = lgu (pty I) n x := by simp only [lgu, if_neg q]
      refine iX11_leagues_17 (iX11_leagues_19 (iX11_leagues_21 (fun h21 => absurd h21 (nI_ge (b := 8) (a := x + 1) (by omega) (by omega))) (fun h21 => ?_)))
      refine iX11_leagues_24 (iX11_leagues_25 (iX11_leagues_28 (iX11_leagues_30 sp (iX11_leagues_33 (fun h33 => absurd h33 ((by decide : ¬ ¬ (0 : Int32) = 0))) (fun h33 => ?_)))))
      refine iX11_leagues_36 (iX11_leagues_71 (iX11_leagues_74 ?_))
      rw [e1]
      have := ih (x + 1) (by omega)
      rw [e2] at this
      exact this
theorem s_X12_has' {x p : Nat} (hx : x < 1024) (hp : p < 10) : SpecF 0 M_X12_has [.int (nI x), .int (nI p)] xG1 I J (some (.int (nI (bit x p)))) I J := by
  refine specF_of (L := [some (.int (nI x)), some (.int (nI p))]) (by decide) (Nat.le_of_ble_eq_true rfl) rfl ?_
  have q6 : nI (bit x p) = 1 ↔ bit x p = 1 := nI_eq (b := 1) (by have := bit_01 x p; omega) (by omega)
  have q0 := bit_01 x p
  refine iX12_has_0 (iX12_has_1 (iX12_has_2 (iX12_has_3 (iX12_has_4 (iX12_has_5 ?_)))))
  rw [bit_shift hx hp]
  refine iX12_has_6 (fun h6 => ?_) (fun h6 => ?_)
  · refine iX12_has_13 (iX12_has_14 ?_)
    refine ⟨congrArg (fun z => some (Value.int z)) ?_, rfl, rfl, rfl⟩
    rw [q6] at h6
    first | (rw [show bit x p = 1 by omega]; rfl) | (rw [show bit x p = 0 by omega]; rfl)
  · refine iX12_has_9 (iX12_has_10 (iX12_has_14 ?_))
    refine ⟨congrArg (fun z => some (Value.int z)) ?_, rfl, rfl, rfl⟩
    rw [q6] at h6
    first | (rw [show bit x p = 1 by omega]; rfl) | (rw [show bit x p = 0 by omega]; rfl)
theorem s_X12_senatorsOf {x n : Nat} (hx : x < 8) (hse : ivSens I) (hn : I 57 6 = nI n) (hn6 : n ≤ 6) : SpecF 2 M_X12_senatorsOf [.ref 57, .int (nI x)] xG1 I J (some (.int (nI (mem (pty I) x n)))) I J := by
  refine specF_of (L := [some (.ref 57), some (.int (nI x)), none, none]) (by decide) (Nat.le_of_ble_eq_true rfl) rfl ?_
  have key : ∀ m i : Nat, i + m = n → WP 2 (1000000, 0, 0) none M_X12_senatorsOf (fun r2 g2 I2 J2 => r2 = some (.int (nI (mem (pty I) x n))) ∧ g2 = xG1 ∧ I2 = I ∧ J2 = J) 4 [some (.ref 57), some (.int (nI x)), some (.int (nI (mem (pty I) x i))), some (.int (nI i))] [] xG1 I J := by
    intro m
    induction m with
    | zero =>
      intro i hi
      obtain rfl : i = n := by omega
      have t9 : I 57 6 ≤ nI i := by rw [hn]; exact Int32.le_refl _
      refine iX12_senatorsOf_4 (iX12_senatorsOf_5 (iX12_senatorsOf_6 (iX12_senatorsOf_9 (fun h9 => ?_) (fun h9 => absurd (t9) (by first | exact h9 | exact fun q => q h9)))))
      refine iX12_senatorsOf_34 (iX12_senatorsOf_35 ?_)
      exact ⟨rfl, rfl, rfl, rfl⟩
    | succ m ih =>
      intro i hi
      have t9 : ¬ I 57 6 ≤ nI i := by rw [hn]; exact nI_ge (by omega) (by omega)
      obtain ⟨p1, p2, p3⟩ := pty_of hse (k := i) (by omega)
      have hb := bit_01 x (pty I i)
      have q22 : nI (bit x (pty I i)) = 0 ↔ bit x (pty I i) = 0 := nI_eq (b := 0) (by omega) (by omega)
      have eA : mem (pty I) x (i + 1) = mem (pty I) x i + bit x (pty I i) := rfl
      refine iX12_senatorsOf_4 (iX12_senatorsOf_5 (iX12_senatorsOf_6 (iX12_senatorsOf_9 (fun h9 => absurd h9 (t9)) (fun h9 => ?_))))
      refine iX12_senatorsOf_12 (iX12_senatorsOf_13 (iX12_senatorsOf_14 (iX12_senatorsOf_17 (iX12_senatorsOf_18 (vp_in_nI (by omega) (by omega)) ?_))))
      rw [nI_clamp (by omega), p3]
      refine iX12_senatorsOf_19 (s_X12_has' (by omega) (by omega)) (iX12_senatorsOf_22 (fun h22 => ?_) (fun h22 => ?_))
      · refine iX12_senatorsOf_28 (iX12_senatorsOf_31 ?_)
        rw [q22] at h22
        have e1 : nI i + (1) = nI (i + 1) := nI_1 _
        have e2 : nI (mem (pty I) x i) + (1) = nI (mem (pty I) x i + 1) := nI_1 _
        rw [e1]
        try rw [e2]
        have := ih (i + 1) (by omega)
        rw [eA] at this
        first | (rw [show bit x (pty I i) = 0 by omega] at this; exact this) | (rw [show bit x (pty I i) = 1 by omega] at this; exact this)
      · refine iX12_senatorsOf_25 (iX12_senatorsOf_28 (iX12_senatorsOf_31 ?_))
        rw [q22] at h22
        have e1 : nI i + (1) = nI (i + 1) := nI_1 _
        have e2 : nI (mem (pty I) x i) + (1) = nI (mem (pty I) x i + 1) := nI_1 _
        rw [e1]
        try rw [e2]
        have := ih (i + 1) (by omega)
        rw [eA] at this
        first | (rw [show bit x (pty I i) = 0 by omega] at this; exact this) | (rw [show bit x (pty I i) = 1 by omega] at this; exact this)
  refine iX12_senatorsOf_0 (iX12_senatorsOf_1 (iX12_senatorsOf_2 (iX12_senatorsOf_3 ?_)))
  exact key n 0 (by omega)
theorem m_leagues {n : Nat} {what : Int32} (hse : ivSens I) (hn : I 57 6 = nI n) (hn6 : n ≤ 6) : ∀ m x : Nat, x + m = 7 → WP 1000 (1000000, 0, 0) none M_X12_leagues (fun r2 g2 I2 J2 => r2 = some (.int (fLg (pty I) n what (lgu (pty I) n 7))) ∧ g2 = xG1 ∧ I2 = I ∧ J2 = J) 49 [some (.ref 57), some (.int what), some (.int (nI (thr (pty I) n))), some (.int (nI (lgu (pty I) n x).1)), some (.int (oN (lgu (pty I) n x).2)), some (.int (nI (x + 1)))] [] xG1 I J := by
  have hpt : ∀ s : Nat, s < n → pty I s < 3 := fun s hs => (pty_of hse (k := s) (by omega)).2.1
  obtain ⟨t1, t2⟩ := thr_spec (P := pty I) n hpt
  intro m
  induction m with
  | zero =>
    intro x hx
    obtain rfl : x = 7 := by omega
    refine iX12_leagues_49 (iX12_leagues_51 (iX12_leagues_53 (fun h53 => ?_) (fun h53 => absurd ((by decide : (8 : Int32) ≤ nI (7 + 1))) (by first | exact h53 | exact fun q => q h53))))
    refine iX12_leagues_116 (iX12_leagues_117 (fun h117 => ?_) (fun h117 => ?_))
    · refine iX12_leagues_124 (iX12_leagues_126 ?_)
      exact ⟨by simp [fLg, *], rfl, rfl, rfl⟩
    · refine iX12_leagues_120 (iX12_leagues_121 (iX12_leagues_126 ?_))
      exact ⟨by simp [fLg, *], rfl, rfl, rfl⟩
  | succ m ih =>
    intro x hx
    have hx8 : x + 1 < 8 := by omega
    have hml := mem_le (pty I) (x + 1) n
    obtain ⟨b1, b2⟩ := lgu_le (pty I) n x
    have e1 : nI (x + 1) + (1) = nI (x + 1 + 1) := nI_1 _
    have T : ∀ x : Nat, x < 8 → ∀ y : Nat, y < 8 → (nI x &&& (nI y ^^^ (-1)) = 0 ↔ ∀ p : Nat, p < 3 → bit x p = 1 → bit y p = 1) := by decide +kernel
    have T1 := T (x + 1) hx8 (thr (pty I) n) t1
    have sx := s_X12_senatorsOf (I := I) (J := J) hx8 hse hn hn6
    have e72 : (2 : Int32) * nI (mem (pty I) (x + 1) n) = nI (2 * mem (pty I) (x + 1) n) := pk_mul 2 _
    by_cases qa : ∀ p : Nat, p < 3 → bit (x + 1) p = 1 → mem (pty I) (2 ^ p) n ≠ 0
    · have f62 : ¬ ¬ nI (x + 1) &&& (nI (thr (pty I) n) ^^^ (-1)) = 0 := fun w => w (T1.mpr (fun p hp hb => (t2 p hp).mpr (qa p hp hb)))
      by_cases qb : n < 2 * mem (pty I) (x + 1) n
      · have q : isL (pty I) n (x + 1) := ⟨qa, qb⟩
        have t77 : I 57 6 < nI (2 * mem (pty I) (x + 1) n) := by rw [hn]; exact nI_lt qb (by omega)
        cases e : (lgu (pty I) n x).2 with
        | none =>
          have e2 : lgu (pty I) n (x + 1) = ((lgu (pty I) n x).1 + 1, some (x + 1)) := by simp only [lgu, if_pos q, e]
          have e3 : nI (lgu (pty I) n x).1 + (1) = nI (lgu (pty I) n (x + 1)).1 := by rw [e2]; exact nI_1 _
          have e4 : nI (x + 1) = oN (lgu (pty I) n (x + 1)).2 := by rw [e2]; rfl
          refine iX12_leagues_49 (iX12_leagues_51 (iX12_leagues_53 (fun h53 => absurd h53 (nI_ge (b := 8) (a := x + 1) (by omega) (by omega))) (fun h53 => ?_)))
          refine iX12_leagues_56 (iX12_leagues_58 (iX12_leagues_59 (iX12_leagues_60 (iX12_leagues_61 (iX12_leagues_62 (fun h62 => absurd h62 (f62)) (fun h62 => ?_))))))
          refine iX12_leagues_65 (iX12_leagues_66 (iX12_leagues_67 (iX12_leagues_69 sx (iX12_leagues_72 ?_))))
          rw [e72]
          refine iX12_leagues_73 (iX12_leagues_74 (iX12_leagues_77 (fun h77 => ?_) (fun h77 => absurd (t77) (by first | exact h77 | exact fun q => q h77))))
          refine iX12_leagues_83 ?_
          rw [e3]
          refine iX12_leagues_86 (iX12_leagues_88 (fun h88 => ?_) (fun h88 => absurd ((by decide : oN none < 0)) (by first | exact h88 | exact fun q => q h88)))
          refine iX12_leagues_106 (iX12_leagues_108 (iX12_leagues_110 (iX12_leagues_113 ?_)))
          rw [e1]
          have := ih (x + 1) (by omega)
          rw [← e4] at this
          exact this
        | some y =>
          have hy := b2 y e
          have hmy := mem_le (pty I) y n
          have sy := s_X12_senatorsOf (I := I) (J := J) (x := y) (by omega) hse hn hn6
          have f88 : ¬ nI y < 0 := nI_pos (by omega)
          by_cases ql : mem (pty I) (x + 1) n < mem (pty I) y n
          · have e2 : lgu (pty I) n (x + 1) = ((lgu (pty I) n x).1 + 1, some (x + 1)) := by simp only [lgu, if_pos q, e, if_pos ql]
            have e3 : nI (lgu (pty I) n x).1 + (1) = nI (lgu (pty I) n (x + 1)).1 := by rw [e2]; exact nI_1 _
            have e4 : nI (x + 1) = oN (lgu (pty I) n (x + 1)).2 := by rw [e2]; rfl
            refine iX12_leagues_49 (iX12_leagues_51 (iX12_leagues_53 (fun h53 => absurd h53 (nI_ge (b := 8) (a := x + 1) (by omega) (by omega))) (fun h53 => ?_)))
            refine iX12_leagues_56 (iX12_leagues_58 (iX12_leagues_59 (iX12_leagues_60 (iX12_leagues_61 (iX12_leagues_62 (fun h62 => absurd h62 (f62)) (fun h62 => ?_))))))
            refine iX12_leagues_65 (iX12_leagues_66 (iX12_leagues_67 (iX12_leagues_69 sx (iX12_leagues_72 ?_))))
            rw [e72]
            refine iX12_leagues_73 (iX12_leagues_74 (iX12_leagues_77 (fun h77 => ?_) (fun h77 => absurd (t77) (by first | exact h77 | exact fun q => q h77))))
            refine iX12_leagues_83 ?_
            rw [e3]
            refine iX12_leagues_86 (iX12_leagues_88 (fun h88 => absurd h88 (f88)) (fun h88 => ?_))
            refine iX12_leagues_91 (iX12_leagues_92 (iX12_leagues_94 sx (iX12_leagues_97 (iX12_leagues_98 (iX12_leagues_100 sy (iX12_leagues_103 (fun h103 => absurd h103 (nI_ge ql (by omega))) (fun h103 => ?_)))))))
            refine iX12_leagues_106 (iX12_leagues_108 (iX12_leagues_110 (iX12_leagues_113 ?_)))
            rw [e1]
            have := ih (x + 1) (by omega)
            rw [← e4] at this
            exact this
          · have e2 : lgu (pty I) n (x + 1) = ((lgu (pty I) n x).1 + 1, some y) := by simp only [lgu, if_pos q, e, if_neg ql]
            have e3 : nI (lgu (pty I) n x).1 + (1) = nI (lgu (pty I) n (x + 1)).1 := by rw [e2]; exact nI_1 _
            have e4 : oN (lgu (pty I) n (x + 1)).2 = oN (some y) := by rw [e2]
            refine iX12_leagues_49 (iX12_leagues_51 (iX12_leagues_53 (fun h53 => absurd h53 (nI_ge (b := 8) (a := x + 1) (by omega) (by omega))) (fun h53 => ?_)))
            refine iX12_leagues_56 (iX12_leagues_58 (iX12_leagues_59 (iX12_leagues_60 (iX12_leagues_61 (iX12_leagues_62 (fun h62 => absurd h62 (f62)) (fun h62 => ?_))))))
            refine iX12_leagues_65 (iX12_leagues_66 (iX12_leagues_67 (iX12_leagues_69 sx (iX12_leagues_72 ?_))))
            rw [e72]
            refine iX12_leagues_73 (iX12_leagues_74 (iX12_leagues_77 (fun h77 => ?_) (fun h77 => absurd (t77) (by first | exact h77 | exact fun q => q h77))))
            refine iX12_leagues_83 ?_
            rw [e3]
            refine iX12_leagues_86 (iX12_leagues_88 (fun h88 => absurd h88 (f88)) (fun h88 => ?_))
            refine iX12_leagues_91 (iX12_leagues_92 (iX12_leagues_94 sx (iX12_leagues_97 (iX12_leagues_98 (iX12_leagues_100 sy (iX12_leagues_103 (fun h103 => ?_) (fun h103 => absurd (nI_le (a := mem (pty I) y n) (b := mem (pty I) (x + 1) n) (by omega) (by omega)) (by first | exact h103 | exact fun q => q h103))))))))
            refine iX12_leagues_110 (iX12_leagues_113 ?_)
            rw [e1]
            have := ih (x + 1) (by omega)
            rw [e4] at this
            exact this
      · have q : ¬ isL (pty I) n (x + 1) := fun w => qb w.2
        have f77 : ¬ I 57 6 < nI (2 * mem (pty I) (x + 1) n) := by rw [hn]; exact nI_nlt (by omega) (by omega)
        have e2 : lgu (pty I) n (x + 1) = lgu (pty I) n x := by simp only [lgu, if_neg q]
        refine iX12_leagues_49 (iX12_leagues_51 (iX12_leagues_53 (fun h53 => absurd h53 (nI_ge (b := 8) (a := x + 1) (by omega) (by omega))) (fun h53 => ?_)))
        refine iX12_leagues_56 (iX12_leagues_58 (iX12_leagues_59 (iX12_leagues_60 (iX12_leagues_61 (iX12_leagues_62 (fun h62 => absurd h62 (f62)) (fun h62 => ?_))))))
        refine iX12_leagues_65 (iX12_leagues_66 (iX12_leagues_67 (iX12_leagues_69 sx (iX12_leagues_72 ?_))))
        rw [e72]
        refine iX12_leagues_73 (iX12_leagues_74 (iX12_leagues_77 (fun h77 => absurd h77 (f77)) (fun h77 => ?_)))
        refine iX12_leagues_80 (iX12_leagues_110 (iX12_leagues_113 ?_))
        rw [e1]
        have := ih (x + 1) (by omega)
        rw [e2] at this
        exact this
    · have q : ¬ isL (pty I) n (x + 1) := fun w => qa w.1
      have t62 : ¬ nI (x + 1) &&& (nI (thr (pty I) n) ^^^ (-1)) = 0 := fun w => qa (fun p hp hb => (t2 p hp).mp (T1.mp w p hp hb))
      have e2 : lgu (pty I) n (x + 1) = lgu (pty I) n x := by simp only [lgu, if_neg q]
      refine iX12_leagues_49 (iX12_leagues_51 (iX12_leagues_53 (fun h53 => absurd h53 (nI_ge (b := 8) (a := x + 1) (by omega) (by omega))) (fun h53 => ?_)))
      refine iX12_leagues_56 (iX12_leagues_58 (iX12_leagues_59 (iX12_leagues_60 (iX12_leagues_61 (iX12_leagues_62 (fun h62 => ?_) (fun h62 => absurd (t62) (by first | exact h62 | exact fun q => q h62)))))))
      refine iX12_leagues_110 (iX12_leagues_113 ?_)
      rw [e1]
      have := ih (x + 1) (by omega)
      rw [e2] at this
      exact this
theorem m_there {n : Nat} {what : Int32} (hse : ivSens I) (hn : I 57 6 = nI n) (hn6 : n ≤ 6) : ∀ m i : Nat, i + m = n → ∀ a4 a5, WP 1000 (1000000, 0, 0) none M_X12_leagues (fun r2 g2 I2 J2 => r2 = some (.int (fLg (pty I) n what (lgu (pty I) n 7))) ∧ g2 = xG1 ∧ I2 = I ∧ J2 = J) 15 [some (.ref 57), some (.int what), some (.int (nI (thr (pty I) i))), some (.int (nI i)), a4, a5] [] xG1 I J := by
  intro m
  induction m with
  | zero =>
    intro i hi a4 a5
    obtain rfl : i = n := by omega
    have t20 : I 57 6 ≤ nI i := by rw [hn]; exact Int32.le_refl _
    refine iX12_leagues_15 (iX12_leagues_16 (iX12_leagues_17 (iX12_leagues_20 (fun h20 => ?_) (fun h20 => absurd (t20) (by first | exact h20 | exact fun q => q h20)))))
    refine iX12_leagues_40 (iX12_leagues_41 (iX12_leagues_42 (iX12_leagues_44 (iX12_leagues_46 (iX12_leagues_47 ?_)))))
    exact m_leagues hse hn hn6 7 0 (by omega)
  | succ m ih =>
    intro i hi a4 a5
    have t20 : ¬ I 57 6 ≤ nI i := by rw [hn]; exact nI_ge (by omega) (by omega)
    obtain ⟨p1, p2, p3⟩ := pty_of hse (k := i) (by omega)
    have ht := (thr_spec (P := pty I) i (fun s hs => (pty_of hse (k := s) (by omega)).2.1)).1
    have T : ∀ x : Nat, x < 8 → ∀ p : Nat, p < 3 → nI x ||| ((1 : Int32) <<< (nI p &&& 31)) = nI (x ||| 2 ^ p) := by decide +kernel
    refine iX12_leagues_15 (iX12_leagues_16 (iX12_leagues_17 (iX12_leagues_20 (fun h20 => absurd h20 (t20)) (fun h20 => ?_))))
    refine iX12_leagues_23 (iX12_leagues_24 (iX12_leagues_25 (iX12_leagues_26 (iX12_leagues_29 (iX12_leagues_30 (vp_in_nI (by omega) (by omega)) ?_)))))
    rw [nI_clamp (by omega), p3]
    refine iX12_leagues_31 (iX12_leagues_32 ?_)
    rw [T _ ht _ p2]
    refine iX12_leagues_33 (iX12_leagues_34 (iX12_leagues_37 ?_))
    have e1 : nI i + (1) = nI (i + 1) := nI_1 _
    rw [e1]
    exact ih (i + 1) (by omega) _ _
end
theorem pp_leagues : PP_leagues Inv := by
  intro I J h what
  obtain ⟨hh, hb, hse, hin, hch, hta, hle, him, hcl, hsh, hlw⟩ := id h
  obtain ⟨a1, a2, a3, a4, a5, a6⟩ := id hh
  by_cases hbad : f_in what 0 1 = 0
  · refine pair_of (v := -1) (v' := -1) (I1 := I) (I2 := I) (J1 := J) (J2 := J) ?_ ?_ rfl h
    · refine specF_of (L := [some (.ref 0), some (.int what), none, none, none]) (by decide) (Nat.le_of_ble_eq_true rfl) rfl ?_
      refine iX11_leagues_0 (iX11_leagues_1 (s_X11_isPart _) (iX11_leagues_4 (fun h4 => absurd h4 ((fun q => q hbad))) (fun h4 => ?_)))
      refine iX11_leagues_7 (iX11_leagues_8 ?_)
      first | exact ⟨rfl, rfl, rfl, rfl⟩ | (exfalso; (try simp only [f_in] at *); grind)
    · refine specF_of (L := [some (.ref 57), some (.int what), none, none, none, none]) (by decide) (Nat.le_of_ble_eq_true rfl) rfl ?_
      refine iX12_leagues_0 (iX12_leagues_1 (iX12_leagues_2 (iX12_leagues_3 (s_X12_in _ _ _) (iX12_leagues_6 (fun h6 => absurd h6 ((fun q => q hbad))) (fun h6 => ?_)))))
      refine iX12_leagues_9 (iX12_leagues_10 ?_)
      first | exact ⟨rfl, rfl, rfl, rfl⟩ | (exfalso; (try simp only [f_in] at *); grind)
  obtain ⟨n, hn, en⟩ := nI_of2 (x := I 1 3) (M := 6) (n := 6) (by decide) (by grind) a6
  refine pair_of (v := fLg (pty I) n what (lgu (pty I) n 7)) (v' := fLg (pty I) n what (lgu (pty I) n 7)) (I1 := I) (I2 := I) (J1 := J) (J2 := J) ?_ ?_ rfl h
  · refine specF_of (L := [some (.ref 0), some (.int what), none, none, none]) (by decide) (Nat.le_of_ble_eq_true rfl) rfl ?_
    refine iX11_leagues_0 (iX11_leagues_1 (s_X11_isPart _) (iX11_leagues_4 (fun h4 => ?_) (fun h4 => absurd (hbad) (by first | exact h4 | exact fun q => q h4))))
    refine iX11_leagues_9 (iX11_leagues_10 (iX11_leagues_11 (iX11_leagues_13 (iX11_leagues_14 (iX11_leagues_15 ?_)))))
    exact c_leagues hse en hn a4 7 0 (by omega)
  · refine specF_of (L := [some (.ref 57), some (.int what), none, none, none, none]) (by decide) (Nat.le_of_ble_eq_true rfl) rfl ?_
    refine iX12_leagues_0 (iX12_leagues_1 (iX12_leagues_2 (iX12_leagues_3 (s_X12_in _ _ _) (iX12_leagues_6 (fun h6 => ?_) (fun h6 => absurd (hbad) (by first | exact h6 | exact fun q => q h6))))))
    refine iX12_leagues_11 (iX12_leagues_12 (iX12_leagues_13 (iX12_leagues_14 ?_)))
    exact m_there hse (a2.trans en) hn n 0 (by omega) _ _
