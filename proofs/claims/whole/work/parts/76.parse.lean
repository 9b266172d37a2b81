/-! ===== a text of the law, in numbers: what both parse ===== -/
abbrev pR : Type := Bool × Nat × List Int32
def dg (x : Int32) : Prop := 48 ≤ x ∧ x ≤ 57
theorem dg_dec (x : Int32) : dg x ∨ ¬ dg x := Classical.em _
def nameI (x : Int32) : Int32 := if x = 102 then 0 else if x = 116 then 1 else if x = 119 then 2 else if x = 114 then 3 else if x = 115 then 4 else if x = 109 then 5 else -1
def lvI (x : Int32) : Int32 := if x = 124 then 0 else if x = 38 then 1 else if x = 60 ∨ x = 61 ∨ x = 62 then 2 else if x = 43 ∨ x = 45 then 3 else if x = 42 ∨ x = 47 ∨ x = 37 then 4 else -1
noncomputable def nmG (c : Nat → Int32) : Nat → Nat → Nat → Nat × Nat
  | 0, p, v => (p, v)
  | k + 1, p, v => @ite _ (dg (c p)) (Classical.propDecidable _) (nmG c k (p + 1) (10 * v + (c p - 48).toNatClampNeg)) (p, v)
noncomputable def pNum (c : Nat → Int32) (p : Nat) : pR := @ite _ ((nmG c 4 p 0).1 = p ∨ dg (c (nmG c 4 p 0).1)) (Classical.propDecidable _) (false, (nmG c 4 p 0).1, []) (true, (nmG c 4 p 0).1, [nI (nmG c 4 p 0).2])
noncomputable def pOpd (c : Nat → Int32) (o : Option ((Nat → pR) × (Nat → pR))) (p : Nat) : pR :=
  if 0 ≤ nameI (c p) then (true, p + 1, [-1 - nameI (c p)])
  else if c p = 33 ∨ c p = 45 ∨ c p = 40 then match o with
    | none => (false, p, [])
    | some (pX, pO) => if c p = 40 then (if (pX (p + 1)).1 = true then (if c (pX (p + 1)).2.1 = 41 then (true, (pX (p + 1)).2.1 + 1, (pX (p + 1)).2.2) else (false, (pX (p + 1)).2.1, [])) else (false, (pX (p + 1)).2.1, []))
      else (if (pO (p + 1)).1 = true then (true, (pO (p + 1)).2.1, (pO (p + 1)).2.2 ++ [if c p = 33 then -33 else -126]) else (false, (pO (p + 1)).2.1, []))
  else pNum c p
def pLoop (c : Nat → Int32) (L : Nat) (S : Nat → pR) : Nat → Nat → List Int32 → pR
  | 0, p, ts => (true, p, ts)
  | f + 1, p, ts => if lvI (c p) = nI L then (if (S (p + 1)).1 = true then (if L = 2 then (true, (S (p + 1)).2.1, ts ++ ((S (p + 1)).2.2 ++ [-(c p)])) else pLoop c L S f (S (p + 1)).2.1 (ts ++ ((S (p + 1)).2.2 ++ [-(c p)]))) else (false, (S (p + 1)).2.1, [])) else (true, p, ts)
def pLev (c : Nat → Int32) (L : Nat) (S : Nat → pR) (p : Nat) : pR := if (S p).1 = true then pLoop c L S 121 (S p).2.1 (S p).2.2 else (false, (S p).2.1, [])
/-- the five levels over an operand; d of them -/
def levN (c : Nat → Int32) (S : Nat → pR) : Nat → Nat → pR
  | 0 => S
  | d + 1 => pLev c (4 - d) (levN c S d)
noncomputable def opd (c : Nat → Int32) : Nat → Nat → pR
  | 0 => pOpd c none
  | k + 1 => pOpd c (some (levN c (opd c k) 5, opd c k))
/-! what they give lies within the text, with no more signs than bytes -/
def okP (n : Nat) (S : Nat → pR) : Prop := ∀ p, p ≤ n → ∀ b q ts, S p = (b, q, ts) → p ≤ q ∧ q ≤ n ∧ (b = true → p < q ∧ ts.length + p ≤ q) ∧ (b = false → ts = [])
/-- bytes of a text of n -/
def byT (c : Nat → Int32) (n : Nat) : Prop := ∀ p, n ≤ p → c p = -1
theorem dg_n {x : Int32} (h : dg x) : ∃ d : Nat, d ≤ 9 ∧ x = nI (48 + d) ∧ (x - 48).toNatClampNeg = d := by
  obtain ⟨h1, h2⟩ := h
  obtain ⟨m, hm, rfl⟩ := nI_of2 (x := x) (M := 57) (n := 57) (by decide) (by grind) h2
  have := (nI_leI (a := 48) (b := m) (by omega) (by omega)).mp h1
  refine ⟨m - 48, by omega, by rw [Nat.add_sub_cancel' this], ?_⟩
  rw [show nI m - 48 = nI (m - 48) from pk_sub (a := m) (b := 48) this, nI_clamp (by omega)]
theorem byT_lt {c : Nat → Int32} {n p : Nat} (h : byT c n) (hc : c p ≠ -1) : p < n := Nat.not_le.mp fun z => hc (h p z)
theorem nmG_ok {c : Nat → Int32} {n : Nat} (h : byT c n) : ∀ (k p v : Nat), p ≤ n → p ≤ (nmG c k p v).1 ∧ (nmG c k p v).1 ≤ n ∧ ((v + 1) * 10 ^ k ≤ 10000 → (nmG c k p v).2 < 10000)
  | 0, p, v, hp => ⟨Nat.le_refl _, hp, fun z => by simp at z; show v < 10000; omega⟩
  | k + 1, p, v, hp => by
    simp only [nmG]
    by_cases q : dg (c p)
    · rw [if_pos q]
      obtain ⟨d, hd, e, e2⟩ := dg_n q
      have hp1 : p < n := byT_lt h (fun z => by rw [z] at q; exact absurd q.1 (by decide))
      obtain ⟨h1, h2, h3⟩ := nmG_ok h k (p + 1) (10 * v + (c p - 48).toNatClampNeg) (by omega)
      refine ⟨by omega, h2, fun z => h3 ?_⟩
      rw [e2]
      refine Nat.le_trans (Nat.mul_le_mul_right _ (show 10 * v + d + 1 ≤ (v + 1) * 10 by omega)) ?_
      rw [Nat.mul_assoc, show 10 * 10 ^ k = 10 ^ (k + 1) by rw [Nat.pow_succ, Nat.mul_comm]]
      exact z
    · rw [if_neg q]
      refine ⟨Nat.le_refl _, hp, fun z => ?_⟩
      have : 0 < 10 ^ (k + 1) := Nat.pow_pos (by omega)
      have : (v + 1) * 1 ≤ (v + 1) * 10 ^ (k + 1) := Nat.mul_le_mul_left _ (by omega)
      show v < 10000
      omega
theorem pNum_ok {c : Nat → Int32} {n : Nat} (h : byT c n) : okP n (pNum c) := by
  intro p hp b q ts e
  obtain ⟨h1, h2, h3⟩ := nmG_ok h 4 p 0 hp
  unfold pNum at e
  by_cases z : (nmG c 4 p 0).1 = p ∨ dg (c (nmG c 4 p 0).1)
  · rw [if_pos z] at e
    cases e
    exact ⟨h1, h2, fun z => (by cases z), fun _ => rfl⟩
  · rw [if_neg z] at e
    cases e
    have : (nmG c 4 p 0).1 ≠ p := fun w => z (Or.inl w)
    refine ⟨h1, h2, fun _ => ⟨by omega, ?_⟩, fun z => by cases z⟩
    simp only [List.length_cons, List.length_nil]
    omega
theorem nameI_ne {x : Int32} (h : 0 ≤ nameI x) : x ≠ -1 := fun z => by rw [z] at h; exact absurd h (by decide)
theorem pR_eta (r : pR) : r = (r.1, r.2.1, r.2.2) := rfl
theorem pOpd_ok {c : Nat → Int32} {n : Nat} (h : byT c n) {o : Option ((Nat → pR) × (Nat → pR))} (ho : ∀ X O, o = some (X, O) → okP n X ∧ okP n O) : okP n (pOpd c o) := by
  intro p hp b q ts e
  unfold pOpd at e
  by_cases h1 : 0 ≤ nameI (c p)
  · rw [if_pos h1] at e
    have := byT_lt h (nameI_ne h1)
    cases e
    refine ⟨by omega, by omega, fun _ => ⟨by omega, ?_⟩, fun z => by cases z⟩
    simp only [List.length_cons, List.length_nil]
    omega
  · rw [if_neg h1] at e
    by_cases h2 : c p = 33 ∨ c p = 45 ∨ c p = 40
    · rw [if_pos h2] at e
      have hp1 : p < n := byT_lt h (fun z => by rw [z] at h2; revert h2; decide)
      match o, ho, e with
      | none, _, e =>
        cases e
        exact ⟨Nat.le_refl _, hp, fun z => (by cases z), fun _ => rfl⟩
      | some (pX, pO), ho, e =>
        obtain ⟨oX, oO⟩ := ho _ _ rfl
        have gX := oX (p + 1) (by omega) _ _ _ (pR_eta _)
        have gO := oO (p + 1) (by omega) _ _ _ (pR_eta _)
        simp only at e
        by_cases h3 : c p = 40
        · rw [if_pos h3] at e
          by_cases h4 : (pX (p + 1)).1 = true
          · rw [if_pos h4] at e
            by_cases h5 : c (pX (p + 1)).2.1 = 41
            · rw [if_pos h5] at e
              have := byT_lt h (p := (pX (p + 1)).2.1) (fun z => by rw [z] at h5; revert h5; decide)
              have := gX.2.2.1 h4
              cases e
              exact ⟨by omega, by omega, fun _ => ⟨by omega, by omega⟩, fun z => by cases z⟩
            · rw [if_neg h5] at e
              cases e
              exact ⟨by omega, gX.2.1, fun z => (by cases z), fun _ => rfl⟩
          · rw [if_neg h4] at e
            cases e
            exact ⟨by omega, gX.2.1, fun z => (by cases z), fun _ => rfl⟩
        · rw [if_neg h3] at e
          by_cases h4 : (pO (p + 1)).1 = true
          · rw [if_pos h4] at e
            have := gO.2.2.1 h4
            cases e
            refine ⟨by omega, gO.2.1, fun _ => ⟨by omega, ?_⟩, fun z => by cases z⟩
            simp only [List.length_append, List.length_cons, List.length_nil]
            omega
          · rw [if_neg h4] at e
            cases e
            exact ⟨by omega, gO.2.1, fun z => (by cases z), fun _ => rfl⟩
    · rw [if_neg h2] at e
      exact pNum_ok h p hp b q ts e
theorem lvI_ne {x : Int32} {L : Nat} (hL : L ≤ 4) (h : lvI x = nI L) : x ≠ -1 := fun z => by
  rw [z, show lvI (-1) = -1 by decide] at h
  have : 0 ≤ nI L := nI_pos' (by omega)
  rw [← h] at this
  exact absurd this (by decide)
theorem pLoop_ok {c : Nat → Int32} {n L : Nat} (h : byT c n) (hL : L ≤ 4) {S : Nat → pR} (hS : okP n S) : ∀ (f p : Nat) (ts : List Int32), p ≤ n → ∀ b q us, pLoop c L S f p ts = (b, q, us) → p ≤ q ∧ q ≤ n ∧ (b = true → us.length + p ≤ q + ts.length) ∧ (b = false → us = [])
  | 0, p, ts, hp, b, q, us, e => by
    cases e
    exact ⟨Nat.le_refl _, hp, fun _ => by omega, fun z => by cases z⟩
  | f + 1, p, ts, hp, b, q, us, e => by
    simp only [pLoop] at e
    by_cases h1 : lvI (c p) = nI L
    · rw [if_pos h1] at e
      have hp1 := byT_lt h (lvI_ne hL h1)
      have g := hS (p + 1) (by omega) _ _ _ (pR_eta _)
      by_cases h2 : (S (p + 1)).1 = true
      · rw [if_pos h2] at e
        have g3 := g.2.2.1 h2
        by_cases h3 : L = 2
        · rw [if_pos h3] at e
          cases e
          refine ⟨by omega, g.2.1, fun _ => ?_, fun z => by cases z⟩
          simp only [List.length_append, List.length_cons, List.length_nil]
          omega
        · rw [if_neg h3] at e
          have := pLoop_ok h hL hS f _ _ g.2.1 b q us e
          refine ⟨by omega, this.2.1, fun z => ?_, this.2.2.2⟩
          have := this.2.2.1 z
          simp only [List.length_append, List.length_cons, List.length_nil] at this
          omega
      · rw [if_neg h2] at e
        cases e
        exact ⟨by omega, g.2.1, fun z => (by cases z), fun _ => rfl⟩
    · rw [if_neg h1] at e
      cases e
      exact ⟨Nat.le_refl _, hp, fun _ => by omega, fun z => by cases z⟩
theorem pLev_ok {c : Nat → Int32} {n L : Nat} (h : byT c n) (hL : L ≤ 4) {S : Nat → pR} (hS : okP n S) : okP n (pLev c L S) := by
  intro p hp b q ts e
  unfold pLev at e
  have g := hS p hp _ _ _ (pR_eta _)
  by_cases h2 : (S p).1 = true
  · rw [if_pos h2] at e
    have g3 := g.2.2.1 h2
    have := pLoop_ok h hL hS 121 _ _ g.2.1 b q ts e
    exact ⟨by omega, this.2.1, fun z => by have := this.2.2.1 z; exact ⟨by omega, by omega⟩, this.2.2.2⟩
  · rw [if_neg h2] at e
    cases e
    exact ⟨g.1, g.2.1, fun z => (by cases z), fun _ => rfl⟩
theorem levN_ok {c : Nat → Int32} {n : Nat} (h : byT c n) {S : Nat → pR} (hS : okP n S) : ∀ d, okP n (levN c S d)
  | 0 => hS
  | d + 1 => pLev_ok h (by omega) (levN_ok h hS d)
theorem opd_ok {c : Nat → Int32} {n : Nat} (h : byT c n) : ∀ k, okP n (opd c k)
  | 0 => pOpd_ok h (fun X O e => by cases e)
  | k + 1 => pOpd_ok h (fun X O e => by cases e; exact ⟨levN_ok h (opd_ok h k) 5, opd_ok h k⟩)
/-! the pile behind them: one more, with room for m -/
def semP (S : Nat → pR) (m : Nat) : Prop := ∀ p q ts, S p = (true, q, ts) → (∀ t ∈ ts, tokOk t) ∧ ts ≠ [] ∧ ∀ h rest, h + m ≤ 40 → hgt 40 (ts ++ rest) h = hgt 40 rest (h + 1)
theorem nm_v {c : Nat → Int32} {p : Nat} (h : 0 ≤ p) : (nmG c 4 p 0).2 < 2 ^ 31 ∨ True := Or.inr trivial
theorem hgt_push1 {t : Int32} {rest : List Int32} {h : Nat} (ht : -6 ≤ t) (hh : h < 40) : hgt 40 (t :: rest) h = hgt 40 rest (h + 1) := by
  simp only [hgt]
  rw [if_pos ht, if_pos hh]
theorem hgt_un1 {t : Int32} {rest : List Int32} {h : Nat} (ht : t = -33 ∨ t = -126) (hh : 1 ≤ h) : hgt 40 (t :: rest) h = hgt 40 rest h := by
  have n6 : ¬ -6 ≤ t := by rcases ht with rfl | rfl <;> decide
  simp only [hgt]
  rw [if_neg n6, if_pos ht, if_pos hh]
theorem hgt_bin1 {t : Int32} {rest : List Int32} {h : Nat} (ht : tBin t) (hh : 2 ≤ h) : hgt 40 (t :: rest) h = hgt 40 rest (h - 1) := by
  obtain ⟨a1, a2, a3, a4, -⟩ := bin_facts ht
  simp only [hgt]
  rw [if_neg a2, if_neg (not_or.mpr ⟨a3, a4⟩), if_pos hh]
theorem nameI_c {x : Int32} (h : 0 ≤ nameI x) : nameI x = 0 ∨ nameI x = 1 ∨ nameI x = 2 ∨ nameI x = 3 ∨ nameI x = 4 ∨ nameI x = 5 := by
  unfold nameI at h ⊢
  grind
theorem lvI_bin {x : Int32} {L : Nat} (hL : L ≤ 4) (h : lvI x = nI L) : tBin (-x) ∧ (x = 124 ∨ x = 38 ∨ x = 60 ∨ x = 61 ∨ x = 62 ∨ x = 43 ∨ x = 45 ∨ x = 42 ∨ x = 47 ∨ x = 37) := by
  have hx : x = 124 ∨ x = 38 ∨ x = 60 ∨ x = 61 ∨ x = 62 ∨ x = 43 ∨ x = 45 ∨ x = 42 ∨ x = 47 ∨ x = 37 := by
    by_cases z : lvI x = -1
    · exfalso
      rw [z] at h
      have : 0 ≤ nI L := nI_pos' (by omega)
      rw [← h] at this
      exact absurd this (by decide)
    · unfold lvI at z
      grind
  refine ⟨?_, hx⟩
  rcases hx with rfl | rfl | rfl | rfl | rfl | rfl | rfl | rfl | rfl | rfl <;> (unfold tBin; decide)
theorem pNum_sem {c : Nat → Int32} {n : Nat} (h : byT c n) : ∀ p, p ≤ n → ∀ q ts, pNum c p = (true, q, ts) → (∀ t ∈ ts, tokOk t) ∧ ts ≠ [] ∧ ∀ h rest, h + 1 ≤ 40 → hgt 40 (ts ++ rest) h = hgt 40 rest (h + 1) := by
  intro p hp q ts e
  have h3 := (nmG_ok h 4 p 0 hp).2.2 (by decide)
  unfold pNum at e
  by_cases z : (nmG c 4 p 0).1 = p ∨ dg (c (nmG c 4 p 0).1)
  · rw [if_pos z] at e; cases e
  · rw [if_neg z] at e
    cases e
    have t6 : -6 ≤ nI (nmG c 4 p 0).2 := Int32.le_trans (by decide) (nI_pos' (by omega))
    refine ⟨fun t ht => by simp at ht; rw [ht]; exact Or.inl t6, by simp, fun h rest hh => hgt_push1 t6 (by omega)⟩
def semN (n : Nat) (S : Nat → pR) (m : Nat) : Prop := ∀ p, p ≤ n → ∀ q ts, S p = (true, q, ts) → (∀ t ∈ ts, tokOk t) ∧ ts ≠ [] ∧ ∀ h rest, h + m ≤ 40 → hgt 40 (ts ++ rest) h = hgt 40 rest (h + 1)
theorem pOpd_sem {c : Nat → Int32} {n : Nat} (h : byT c n) {m : Nat} (hm : 1 ≤ m) {o : Option ((Nat → pR) × (Nat → pR))} (ho : ∀ X O, o = some (X, O) → semN n X m ∧ semN n O m) : semN n (pOpd c o) m := by
  intro p hp q ts e
  unfold pOpd at e
  by_cases h1 : 0 ≤ nameI (c p)
  · rw [if_pos h1] at e
    cases e
    have t6 : -6 ≤ -1 - nameI (c p) := by rcases nameI_c h1 with e | e | e | e | e | e <;> rw [e] <;> decide
    refine ⟨fun t ht => by simp at ht; rw [ht]; exact Or.inl t6, by simp, fun h rest hh => hgt_push1 t6 (by omega)⟩
  · rw [if_neg h1] at e
    by_cases h2 : c p = 33 ∨ c p = 45 ∨ c p = 40
    · rw [if_pos h2] at e
      have hp1 : p < n := byT_lt h (fun z => by rw [z] at h2; revert h2; decide)
      match o, ho, e with
      | none, _, e => cases e
      | some (pX, pO), ho, e =>
        obtain ⟨sX, sO⟩ := ho _ _ rfl
        simp only at e
        by_cases h3 : c p = 40
        · rw [if_pos h3] at e
          by_cases h4 : (pX (p + 1)).1 = true
          · rw [if_pos h4] at e
            by_cases h5 : c (pX (p + 1)).2.1 = 41
            · rw [if_pos h5] at e
              cases e
              exact sX (p + 1) (by omega) (pX (p + 1)).2.1 _ (by rw [← h4])
            · rw [if_neg h5] at e; cases e
          · rw [if_neg h4] at e; cases e
        · rw [if_neg h3] at e
          by_cases h4 : (pO (p + 1)).1 = true
          · rw [if_pos h4] at e
            obtain ⟨s1, s2, s3⟩ := sO (p + 1) (by omega) (pO (p + 1)).2.1 (pO (p + 1)).2.2 (by rw [← h4])
            cases e
            have hu : (if c p = 33 then (-33 : Int32) else -126) = -33 ∨ (if c p = 33 then (-33 : Int32) else -126) = -126 := by split <;> simp
            generalize (if c p = 33 then (-33 : Int32) else -126) = u at hu
            refine ⟨fun t ht => ?_, by simp, fun h rest hh => ?_⟩
            · rcases List.mem_append.mp ht with ht | ht
              · exact s1 t ht
              · simp at ht
                rw [ht]
                refine Or.inr ?_
                rcases hu with e | e <;> rw [e] <;> decide
            · rw [List.append_assoc, s3 h _ hh]
              exact hgt_un1 hu (by omega)
          · rw [if_neg h4] at e; cases e
    · rw [if_neg h2] at e
      obtain ⟨s1, s2, s3⟩ := pNum_sem h p hp q ts e
      exact ⟨s1, s2, fun h rest hh => s3 h rest (by omega)⟩
theorem pLoop_sem {c : Nat → Int32} {n L : Nat} (h : byT c n) (hL : L ≤ 4) {S : Nat → pR} (hS : okP n S) {m : Nat} (sS : semN n S m) : ∀ (f p : Nat) (ts : List Int32), p ≤ n → ((∀ t ∈ ts, tokOk t) ∧ ts ≠ [] ∧ ∀ h rest, h + (m + 1) ≤ 40 → hgt 40 (ts ++ rest) h = hgt 40 rest (h + 1)) → ∀ q us, pLoop c L S f p ts = (true, q, us) → (∀ t ∈ us, tokOk t) ∧ us ≠ [] ∧ ∀ h rest, h + (m + 1) ≤ 40 → hgt 40 (us ++ rest) h = hgt 40 rest (h + 1)
  | 0, p, ts, hp, ht, q, us, e => by cases e; exact ht
  | f + 1, p, ts, hp, ht, q, us, e => by
    simp only [pLoop] at e
    by_cases h1 : lvI (c p) = nI L
    · rw [if_pos h1] at e
      have hp1 := byT_lt h (lvI_ne hL h1)
      have g := hS (p + 1) (by omega) _ _ _ (pR_eta _)
      obtain ⟨hb, -⟩ := lvI_bin hL h1
      by_cases h2 : (S (p + 1)).1 = true
      · rw [if_pos h2] at e
        obtain ⟨s1, s2, s3⟩ := sS (p + 1) (by omega) (S (p + 1)).2.1 (S (p + 1)).2.2 (by rw [← h2])
        have nxt : (∀ t ∈ ts ++ ((S (p + 1)).2.2 ++ [-(c p)]), tokOk t) ∧ ts ++ ((S (p + 1)).2.2 ++ [-(c p)]) ≠ [] ∧ ∀ h rest, h + (m + 1) ≤ 40 → hgt 40 ((ts ++ ((S (p + 1)).2.2 ++ [-(c p)])) ++ rest) h = hgt 40 rest (h + 1) := by
          refine ⟨fun t ht2 => ?_, by simp, fun h rest hh => ?_⟩
          · rcases List.mem_append.mp ht2 with ht2 | ht2
            · exact ht.1 t ht2
            · rcases List.mem_append.mp ht2 with ht2 | ht2
              · exact s1 t ht2
              · simp at ht2
                rw [ht2]
                refine Or.inr ?_
                rcases hb with e | e | e | e | e | e | e | e | e | e <;> rw [e] <;> decide
          · rw [List.append_assoc, List.append_assoc, ht.2.2 h _ hh, s3 (h + 1) _ (by omega)]
            exact hgt_bin1 hb (by omega)
        by_cases h3 : L = 2
        · rw [if_pos h3] at e
          cases e
          exact nxt
        · rw [if_neg h3] at e
          exact pLoop_sem h hL hS sS f _ _ g.2.1 nxt q us e
      · rw [if_neg h2] at e; cases e
    · rw [if_neg h1] at e
      cases e
      exact ht
theorem pLev_sem {c : Nat → Int32} {n L : Nat} (h : byT c n) (hL : L ≤ 4) {S : Nat → pR} (hS : okP n S) {m : Nat} (sS : semN n S m) : semN n (pLev c L S) (m + 1) := by
  intro p hp q ts e
  unfold pLev at e
  have g := hS p hp _ _ _ (pR_eta _)
  by_cases h2 : (S p).1 = true
  · rw [if_pos h2] at e
    obtain ⟨s1, s2, s3⟩ := sS p hp (S p).2.1 (S p).2.2 (by rw [← h2])
    exact pLoop_sem h hL hS sS 121 _ _ g.2.1 ⟨s1, s2, fun h rest hh => s3 h rest (by omega)⟩ q ts e
  · rw [if_neg h2] at e; cases e
theorem levN_sem {c : Nat → Int32} {n : Nat} (h : byT c n) {S : Nat → pR} (hS : okP n S) {m : Nat} (sS : semN n S m) : ∀ d, semN n (levN c S d) (m + d)
  | 0 => sS
  | d + 1 => pLev_sem h (by omega) (levN_ok h hS d) (levN_sem h hS sS d)
theorem semN_le {n : Nat} {S : Nat → pR} {m m' : Nat} (h : semN n S m) (hm : m ≤ m') : semN n S m' := fun p hp q ts e => by
  obtain ⟨s1, s2, s3⟩ := h p hp q ts e
  exact ⟨s1, s2, fun h rest hh => s3 h rest (by omega)⟩
theorem opd_sem {c : Nat → Int32} {n : Nat} (h : byT c n) : ∀ k, semN n (opd c k) (1 + 5 * k)
  | 0 => pOpd_sem h (by omega) (fun X O e => by cases e)
  | k + 1 => pOpd_sem h (by omega) (fun X O e => by
      cases e
      exact ⟨semN_le (levN_sem h (opd_ok h k) (opd_sem h k) 5) (by omega), semN_le (opd_sem h k) (by omega)⟩)
/-- a whole expression -/
noncomputable def pEx (c : Nat → Int32) : Nat → pR := levN c (opd c 6) 5
theorem pEx_okE {c : Nat → Int32} {n : Nat} (h : byT c n) {p q : Nat} {ts : List Int32} (hp : p ≤ n) (e : pEx c p = (true, q, ts)) : okE ts ∧ ts ≠ [] := by
  obtain ⟨s1, s2, s3⟩ := levN_sem h (opd_ok h 6) (opd_sem h 6) 5 p hp q ts e
  have := s3 0 [] (by omega)
  rw [List.append_nil] at this
  exact ⟨⟨this, s1⟩, s2⟩
