/-! ===== by turns ===== -/
def wm (w m : Nat) : Nat := if m = 0 then min 9 (w + 2) else if m = 1 then w - 2 else w
theorem wm_lt {w m : Nat} (h : w < 10) : wm w m < 10 := by unfold wm; split <;> (try split) <;> omega
def bt (f : Bool) (x y : Nat) : Bool := if f = true then decide (x < y) else decide (y < x)
def chM (f : Bool) (e : Nat → Nat) (w : Nat) (m b : Nat) : Nat := if bt f (e (wm w m)) (e (wm w b)) = true then m else b
def ch (f : Bool) (e : Nat → Nat) (w : Nat) : Nat := chM f e w 1 (chM f e w 0 2)
theorem chM_lt {f : Bool} {e : Nat → Nat} {w m b : Nat} (hm : m < 3) (hb : b < 3) : chM f e w m b < 3 := by unfold chM; split <;> assumption
theorem ch_lt {f : Bool} {e : Nat → Nat} {w : Nat} : ch f e w < 3 := chM_lt (by omega) (chM_lt (by omega) (by omega))
def mm (f : Bool) (a x : Nat) : Nat := if bt f x a = true then x else a
def V (g : Nat → Nat) : Nat → Bool → Nat → Nat
  | 0, _, w => g w
  | l + 1, f, w => mm f (mm f (V g l (!f) w) (V g l (!f) (wm w 0))) (V g l (!f) (wm w 1))
theorem mm_le {f : Bool} {a x M : Nat} (h : a ≤ M) (h2 : x ≤ M) : mm f a x ≤ M := by unfold mm; split <;> assumption
theorem V_le {g : Nat → Nat} (hg : ∀ w, g w ≤ 12) : ∀ l f w, V g l f w ≤ 12
  | 0, _, w => hg w
  | l + 1, f, w => mm_le (mm_le (V_le hg l _ _) (V_le hg l _ _)) (V_le hg l _ _)
theorem chM_val {f : Bool} {e : Nat → Nat} {w m b : Nat} : e (wm w (chM f e w m b)) = mm f (e (wm w b)) (e (wm w m)) := by
  unfold chM mm
  split <;> rfl
theorem wm_2 (w : Nat) : wm w 2 = w := by simp [wm]
theorem V_ch {g : Nat → Nat} {l : Nat} {f : Bool} {w : Nat} : V g l (!f) (wm w (ch f (V g l (!f)) w)) = V g (l + 1) f w := by
  unfold ch
  rw [chM_val (e := V g l (!f)), chM_val (e := V g l (!f)), wm_2]
  rfl
theorem ch_first {e : Nat → Nat} {w : Nat} : (e w = e (wm w (ch true e w)) → ch true e w = 2) ∧ (¬ e w = e (wm w (ch true e w)) → e (wm w 0) = e (wm w (ch true e w)) → ch true e w = 0) ∧ (¬ e w = e (wm w (ch true e w)) → ¬ e (wm w 0) = e (wm w (ch true e w)) → ch true e w = 1) := by
  have e2 := wm_2 w
  have b1 : ∀ x y : Nat, bt true x y = true ↔ x < y := fun x y => by simp [bt]
  unfold ch chM
  by_cases q : e (wm w 0) < e w
  · have h1 : (if bt true (e (wm w 0)) (e (wm w 2)) = true then 0 else 2) = 0 := if_pos ((b1 _ _).mpr (by rw [e2]; exact q))
    rw [h1]
    by_cases q2 : e (wm w 1) < e (wm w 0)
    · rw [if_pos ((b1 _ _).mpr q2)]
      exact ⟨fun h => by omega, fun h h2 => by omega, fun h h2 => rfl⟩
    · rw [if_neg (fun z => q2 ((b1 _ _).mp z))]
      exact ⟨fun h => by omega, fun h h2 => rfl, fun h h2 => absurd rfl h2⟩
  · have h1 : (if bt true (e (wm w 0)) (e (wm w 2)) = true then 0 else 2) = 2 := if_neg (fun z => q (by have := (b1 _ _).mp z; rw [e2] at this; exact this))
    rw [h1]
    by_cases q2 : e (wm w 1) < e w
    · rw [if_pos ((b1 _ _).mpr (by rw [e2]; exact q2))]
      exact ⟨fun h => by omega, fun h h2 => by omega, fun h h2 => rfl⟩
    · rw [if_neg (fun z => q2 (by have := (b1 _ _).mp z; rw [e2] at this; exact this))]
      exact ⟨fun h => rfl, fun h h2 => absurd (by rw [e2]) h, fun h h2 => absurd (by rw [e2]) h⟩
def bI (f : Bool) : Int32 := if f = true then 1 else 0
section
variable {I : xI} {J : xJ}
theorem s_X7_end {e : Nat → Nat} (hE : ∀ w : Nat, w < 10 → I 35 w = nI (e w)) {w m : Nat} (hw : w < 10) (hm : m < 3) : SpecF 1 M_X7_end [.ref 34, .int (nI w), .int (nI m)] xG1 I J (some (.int (nI (e (wm w m))))) I J := by
  have T : ∀ w : Nat, w < 10 → f_max 0 (f_min 9 (nI w + 2)) = nI (wm w 0) ∧ f_max 0 (f_min 9 (nI w + -2)) = nI (wm w 1) ∧ f_max 0 (f_min 9 (nI w + 0)) = nI (wm w 2) := by decide +kernel
  obtain ⟨t0, t1, t2⟩ := T w hw
  have l := wm_lt (m := m) hw
  refine specF_of (L := [some (.ref 34), some (.int (nI w)), some (.int (nI m)), none]) (by decide) (Nat.le_of_ble_eq_true rfl) rfl ?_
  have hm3 : m = 0 ∨ m = 1 ∨ m = 2 := by omega
  rcases hm3 with rfl | rfl | rfl
  · refine iX7_end_0 (iX7_end_1 (iX7_end_2 (fun h2 => absurd h2 ((fun z => z (by decide)))) (fun h2 => ?_)))
    refine iX7_end_5 (iX7_end_6 (iX7_end_20 (iX7_end_21 (iX7_end_22 (iX7_end_23 (iX7_end_26 (iX7_end_27 (iX7_end_29 (iX7_end_30 (s_J9_min _ _) (iX7_end_33 (s_J9_max _ _) ?_))))))))))
    rw [t0]
    refine iX7_end_36 (vp_in_nI l (by omega)) (iX7_end_37 ?_)
    exact ⟨by rw [nI_clamp (by omega), hE _ l], rfl, rfl, rfl⟩
  · refine iX7_end_0 (iX7_end_1 (iX7_end_2 (fun h2 => ?_) (fun h2 => by first | exact absurd ((by decide)) h2 | exact absurd h2 ((by decide)))))
    refine iX7_end_9 (iX7_end_10 (iX7_end_11 (fun h11 => absurd h11 ((fun z => z (by decide)))) (fun h11 => ?_)))
    refine iX7_end_14 (iX7_end_16 (iX7_end_20 (iX7_end_21 (iX7_end_22 (iX7_end_23 (iX7_end_26 (iX7_end_27 (iX7_end_29 (iX7_end_30 (s_J9_min _ _) (iX7_end_33 (s_J9_max _ _) ?_))))))))))
    rw [t1]
    refine iX7_end_36 (vp_in_nI l (by omega)) (iX7_end_37 ?_)
    exact ⟨by rw [nI_clamp (by omega), hE _ l], rfl, rfl, rfl⟩
  · refine iX7_end_0 (iX7_end_1 (iX7_end_2 (fun h2 => ?_) (fun h2 => by first | exact absurd ((by decide)) h2 | exact absurd h2 ((by decide)))))
    refine iX7_end_9 (iX7_end_10 (iX7_end_11 (fun h11 => ?_) (fun h11 => by first | exact absurd ((by decide)) h11 | exact absurd h11 ((by decide)))))
    refine iX7_end_19 (iX7_end_20 (iX7_end_21 (iX7_end_22 (iX7_end_23 (iX7_end_26 (iX7_end_27 (iX7_end_29 (iX7_end_30 (s_J9_min _ _) (iX7_end_33 (s_J9_max _ _) ?_)))))))))
    rw [t2]
    refine iX7_end_36 (vp_in_nI l (by omega)) (iX7_end_37 ?_)
    exact ⟨by rw [nI_clamp (by omega), hE _ l], rfl, rfl, rfl⟩
theorem sub_lt0 {a b : Nat} (ha : a ≤ 12) (hb : b ≤ 12) : (nI a - nI b < 0 ↔ a < b) ∧ (0 ≤ nI a - nI b ↔ ¬ a < b) ∧ (nI a - nI b ≤ 0 ↔ ¬ b < a) := by
  have : ∀ a : Nat, a < 13 → ∀ b : Nat, b < 13 → (nI a - nI b < 0 ↔ a < b) ∧ (0 ≤ nI a - nI b ↔ ¬ a < b) ∧ (nI a - nI b ≤ 0 ↔ ¬ b < a) := by decide +kernel
  exact this a (by omega) b (by omega)
theorem ch_it {e : Nat → Nat} (hE : ∀ w : Nat, w < 10 → I 35 w = nI (e w)) (he : ∀ w, e w ≤ 12) {f : Bool} {w m b : Nat} (hw : w < 10) (hm : m < 2) (hb : b < 3) {Q : xP} (k : ∀ x5, WP 3 (1000000, 0, 0) none M_X7_choice Q 5 [some (.ref 34), some (.int (nI w)), some (.int (bI f)), some (.int (nI (chM f e w m b))), some (.int (nI (m + 1))), x5] [] xG1 I J) : ∀ x5, WP 3 (1000000, 0, 0) none M_X7_choice Q 5 [some (.ref 34), some (.int (nI w)), some (.int (bI f)), some (.int (nI b)), some (.int (nI m)), x5] [] xG1 I J := by
  intro x5
  obtain ⟨z1, z2, z3⟩ := sub_lt0 (he (wm w m)) (he (wm w b))
  have ei : nI m + (1) = nI (m + 1) := nI_1 _
  have f8 : ¬ (1 : Int32) < nI m := nI_nlt (b := m) (a := 1) (by omega) (by omega) |> fun z => by
    have := nI_nlt (b := m) (a := 1) (by omega) (by omega)
    have l1 : nI m ≤ 1 := nI_le (b := 1) (by omega) (by omega)
    grind
  cases f with
  | true =>
    by_cases q : e (wm w m) < e (wm w b)
    · have ek : chM true e w m b = m := by simp [chM, bt, q]
      rw [ek] at k
      refine iX7_choice_5 (iX7_choice_7 (iX7_choice_8 (fun h8 => absurd h8 (f8)) (fun h8 => ?_)))
      refine iX7_choice_11 (iX7_choice_12 (iX7_choice_13 (iX7_choice_15 (s_X7_end hE hw (by omega)) (iX7_choice_18 (iX7_choice_19 (iX7_choice_20 (iX7_choice_21 (s_X7_end hE hw hb) (iX7_choice_24 (iX7_choice_25 (iX7_choice_27 (iX7_choice_28 (fun h28 => absurd h28 ((by decide))) (fun h28 => ?_))))))))))))
      refine iX7_choice_31 (iX7_choice_33 (fun h33 => absurd h33 (fun z => (z2.mp z) q)) (fun h33 => ?_))
      refine iX7_choice_36 (iX7_choice_44 (iX7_choice_46 (iX7_choice_47 (iX7_choice_50 ?_))))
      rw [ei]
      exact k _
    · have ek : chM true e w m b = b := by simp [chM, bt, q]
      rw [ek] at k
      refine iX7_choice_5 (iX7_choice_7 (iX7_choice_8 (fun h8 => absurd h8 (f8)) (fun h8 => ?_)))
      refine iX7_choice_11 (iX7_choice_12 (iX7_choice_13 (iX7_choice_15 (s_X7_end hE hw (by omega)) (iX7_choice_18 (iX7_choice_19 (iX7_choice_20 (iX7_choice_21 (s_X7_end hE hw hb) (iX7_choice_24 (iX7_choice_25 (iX7_choice_27 (iX7_choice_28 (fun h28 => absurd h28 ((by decide))) (fun h28 => ?_))))))))))))
      refine iX7_choice_31 (iX7_choice_33 (fun h33 => ?_) (fun h33 => by first | exact absurd (z2.mpr q) h33 | exact absurd h33 (z2.mpr q)))
      refine iX7_choice_47 (iX7_choice_50 ?_)
      rw [ei]
      exact k _
  | false =>
    by_cases q : e (wm w b) < e (wm w m)
    · have ek : chM false e w m b = m := by simp [chM, bt, q]
      rw [ek] at k
      refine iX7_choice_5 (iX7_choice_7 (iX7_choice_8 (fun h8 => absurd h8 (f8)) (fun h8 => ?_)))
      refine iX7_choice_11 (iX7_choice_12 (iX7_choice_13 (iX7_choice_15 (s_X7_end hE hw (by omega)) (iX7_choice_18 (iX7_choice_19 (iX7_choice_20 (iX7_choice_21 (s_X7_end hE hw hb) (iX7_choice_24 (iX7_choice_25 (iX7_choice_27 (iX7_choice_28 (fun h28 => ?_) (fun h28 => by first | exact absurd (rfl) h28 | exact absurd h28 (rfl)))))))))))))
      refine iX7_choice_39 (iX7_choice_41 (fun h41 => absurd h41 (fun z => (z3.mp z) q)) (fun h41 => ?_))
      refine iX7_choice_44 (iX7_choice_46 (iX7_choice_47 (iX7_choice_50 ?_)))
      rw [ei]
      exact k _
    · have ek : chM false e w m b = b := by simp [chM, bt, q]
      rw [ek] at k
      refine iX7_choice_5 (iX7_choice_7 (iX7_choice_8 (fun h8 => absurd h8 (f8)) (fun h8 => ?_)))
      refine iX7_choice_11 (iX7_choice_12 (iX7_choice_13 (iX7_choice_15 (s_X7_end hE hw (by omega)) (iX7_choice_18 (iX7_choice_19 (iX7_choice_20 (iX7_choice_21 (s_X7_end hE hw hb) (iX7_choice_24 (iX7_choice_25 (iX7_choice_27 (iX7_choice_28 (fun h28 => ?_) (fun h28 => by first | exact absurd (rfl) h28 | exact absurd h28 (rfl)))))))))))))
      refine iX7_choice_39 (iX7_choice_41 (fun h41 => ?_) (fun h41 => by first | exact absurd (z3.mpr q) h41 | exact absurd h41 (z3.mpr q)))
      refine iX7_choice_47 (iX7_choice_50 ?_)
      rw [ei]
      exact k _
theorem s_X7_choice {e : Nat → Nat} (hE : ∀ w : Nat, w < 10 → I 35 w = nI (e w)) (he : ∀ w, e w ≤ 12) (f : Bool) {w : Nat} (hw : w < 10) : SpecF 3 M_X7_choice [.ref 34, .int (nI w), .int (bI f)] xG1 I J (some (.int (nI (ch f e w)))) I J := by
  refine specF_of (L := [some (.ref 34), some (.int (nI w)), some (.int (bI f)), none, none, none]) (by decide) (Nat.le_of_ble_eq_true rfl) rfl ?_
  refine iX7_choice_0 (iX7_choice_1 (iX7_choice_2 (iX7_choice_3 ?_)))
  refine ch_it hE he hw (m := 0) (b := 2) (by omega) (by omega) (fun x5 => ?_) _
  refine ch_it hE he hw (m := 1) (by omega) (chM_lt (by omega) (by omega)) (fun x5 => ?_) _
  refine iX7_choice_5 (iX7_choice_7 (iX7_choice_8 (fun h8 => ?_) (fun h8 => by first | exact absurd ((by decide)) h8 | exact absurd h8 ((by decide)))))
  refine iX7_choice_53 (iX7_choice_54 ?_)
  exact ⟨rfl, rfl, rfl, rfl⟩
end
section
variable {I0 : xI} {J : xJ} {nB nS b s : Nat} {ls : lwT}
/-- of each wind -/
noncomputable def gW (I : xI) (ls : lwT) (b s w : Nat) : Nat := cyN I ls (f_min 95 (I 15 0 + I 7 b)) (I 13 0) (nI w) b s
theorem gW_fr {I' : xI} (h : Fq I0 I') : gW I' ls b s = gW I0 ls b s := by
  funext w
  unfold gW
  rw [cyN_fr h, h.1 15 (by decide) (by decide), h.1 7 (by decide) (by decide), h.1 13 (by decide) (by decide)]
theorem even_b (t : Nat) : (t + 1) % 2 = 0 ↔ ¬ t % 2 = 0 := by omega
def evn (t : Nat) : Bool := decide (t % 2 = 0)
theorem evn_s (t : Nat) : evn (t + 1) = !evn t := by
  unfold evn
  by_cases q : t % 2 = 0
  · rw [decide_eq_true q, decide_eq_false (by omega)]; rfl
  · rw [decide_eq_false q, decide_eq_true (by omega)]; rfl
theorem c_play1 (h : Wd I0 nB nS ls) (hb : b < nB) (hs : s < nS) {Q : xP} {n : Int32} (k : ∀ I x4, xFr [4, 5, 34, 35, 36] I0 I → (∀ w : Nat, w < 10 → I 35 w = nI (gW I0 ls b s w)) → WP 12 (1000000, 0, 0) none M_X7_play Q 47 [some (.ref 34), some (.int (nI (10 * b + s))), some (.int n), some (.int 10), x4] [] xG1 I J) : ∀ (m w : Nat), w + m = 10 → ∀ (I : xI) x4, xFr [4, 5, 34, 35, 36] I0 I → (∀ u : Nat, u < w → I 35 u = nI (gW I0 ls b s u)) → WP 12 (1000000, 0, 0) none M_X7_play Q 2 [some (.ref 34), some (.int (nI (10 * b + s))), some (.int n), some (.int (nI w)), x4] [] xG1 I J := by
  intro m
  induction m with
  | zero =>
    intro w hw I x4 hI hE
    obtain rfl : w = 10 := by omega
    refine iX7_play_2 (iX7_play_3 (iX7_play_5 (fun h5 => ?_) (fun h5 => by first | exact absurd (Int32.le_refl _) h5 | exact absurd h5 (Int32.le_refl _))))
    exact k I x4 hI hE
  | succ m ih =>
    intro w hw I x4 hI hE
    have fI := Fq.of hI (by decide)
    have wI := h.fr fI
    obtain ⟨hB, hS⟩ := wI.le
    have e6 : f_get I 0 6 = I0 13 0 := (f_get_its 6 (by omega) (by omega)).trans (by rw [fI.1 13 (by decide) (by decide)])
    have e8 : f_get I 0 8 = I0 15 0 := (f_get_its 8 (by omega) (by omega)).trans (by rw [fI.1 15 (by decide) (by decide)])
    have e7 : I 7 b = I0 7 b := by rw [fI.1 7 (by decide) (by decide)]
    have ei : nI w + (1) = nI (w + 1) := nI_1 _
    have f5 : ¬ (10 : Int32) ≤ nI w := nI_ge (b := 10) (a := w) (by omega) (by omega)
    have sp := s_X5_crying (J := J) wI hb hs (I0 13 0) (nI w) (I0 15 0)
    rw [e7, show cyN I ls (f_min 95 (I0 15 0 + I0 7 b)) (I0 13 0) (nI w) b s = gW I0 ls b s w from cyN_fr fI] at sp
    refine iX7_play_2 (iX7_play_3 (iX7_play_5 (fun h5 => absurd h5 (f5)) (fun h5 => ?_)))
    refine iX7_play_8 (iX7_play_9 (iX7_play_12 (iX7_play_13 (iX7_play_14 (iX7_play_17 (iX7_play_18 (iX7_play_19 (iX7_play_22 (iX7_play_24 (s_X5_its 6 hB hS) (iX7_play_27 (iX7_play_28 (iX7_play_29 (iX7_play_32 (iX7_play_34 (s_X5_its 8 hB hS) ?_))))))))))))))
    rw [e6, e8]
    refine jX7_play_37 sp (fun r37 g37 I37 J37 hq => ?_)
    obtain ⟨rfl, rfl, hq3, rfl⟩ := hq
    refine iX7_play_40 (vp_in_nI (by omega) (by omega)) (iX7_play_41 (iX7_play_44 ?_))
    rw [ei, nI_clamp (by omega)]
    refine ih (w + 1) (by omega) _ _ ((hI.tr (hq3.mono (by decide))).up (by decide)) (fun u hu => ?_)
    by_cases q : u = w
    · subst q; exact xu_eq
    · rw [xu_col q, hq3 35 (by decide)]
      exact hE u (by omega)
/-- one turn: before -/
theorem c_play2 (h : Wd I0 nB nS ls) {bs : Int32} {Q : xP} {n : Int32} {t : Nat} (ht : t < 5) {e : Nat → Nat} (he : ∀ w, e w ≤ 12) (k : ∀ I x4, xFr [4, 5, 34, 35, 36] I0 I → (∀ w : Nat, w < 10 → I 36 w = nI (e (wm w (ch (evn t) e w)))) → WP 12 (1000000, 0, 0) none M_X7_play Q 101 [some (.ref 34), some (.int bs), some (.int n), some (.int (nI t)), x4] [] xG1 I J) : ∀ (m w : Nat), w + m = 10 → ∀ (I : xI), xFr [4, 5, 34, 35, 36] I0 I → (∀ u : Nat, u < 10 → I 35 u = nI (e u)) → (∀ u : Nat, u < w → I 36 u = nI (e (wm u (ch (evn t) e u)))) → WP 12 (1000000, 0, 0) none M_X7_play Q 58 [some (.ref 34), some (.int bs), some (.int n), some (.int (nI t)), some (.int (nI w))] [] xG1 I J := by
  intro m
  induction m with
  | zero =>
    intro w hw I hI hE h36
    obtain rfl : w = 10 := by omega
    refine iX7_play_58 (iX7_play_60 (iX7_play_62 (fun h62 => ?_) (fun h62 => by first | exact absurd (Int32.le_refl _) h62 | exact absurd h62 (Int32.le_refl _))))
    exact k I _ hI h36
  | succ m ih =>
    intro w hw I hI hE h36
    have ei : nI w + (1) = nI (w + 1) := nI_1 _
    have f5 : ¬ (10 : Int32) ≤ nI w := nI_ge (b := 10) (a := w) (by omega) (by omega)
    have sp := s_X7_choice (J := J) hE he (evn t) (w := w) (by omega)
    have se := s_X7_end (J := J) hE (w := w) (by omega) (ch_lt (f := evn t) (e := e) (w := w))
    have er : nI t - nI t / 2 * 2 = nI (t % 2) := pk_rem (d := 2) (by omega) (by omega) (by omega)
    have tail : WP 12 (1000000, 0, 0) none M_X7_play Q 88 [some (.ref 34), some (.int bs), some (.int n), some (.int (nI t)), some (.int (nI w))] [.int (bI (evn t)), .int (nI w), .ref 34, .int (nI w), .ref 34, .int (nI w), .ref 36] xG1 I J := by
      refine iX7_play_88 sp (iX7_play_91 se (iX7_play_94 (vp_in_nI (by omega) (by omega)) (iX7_play_95 (iX7_play_98 ?_))))
      rw [ei, nI_clamp (by omega)]
      refine ih (w + 1) (by omega) _ (hI.up (by decide)) (fun u hu => by rw [xu_rowf (by decide)]; exact hE u hu) (fun u hu => ?_)
      by_cases q : u = w
      · subst q; exact xu_eq
      · rw [xu_col q]
        exact h36 u (by omega)
    by_cases q : t % 2 = 0
    · have eb : evn t = true := decide_eq_true q
      rw [eb] at tail
      refine iX7_play_58 (iX7_play_60 (iX7_play_62 (fun h62 => absurd h62 (f5)) (fun h62 => ?_)))
      refine iX7_play_65 (iX7_play_66 (iX7_play_69 (iX7_play_71 (iX7_play_72 (iX7_play_74 (iX7_play_75 (iX7_play_77 (iX7_play_78 (iX7_play_79 (by decide) ?_)))))))))
      rw [er, q]
      refine iX7_play_80 (fun h80 => absurd h80 ((fun z => z (by decide)))) (fun h80 => ?_)
      refine iX7_play_83 (iX7_play_84 ?_)
      exact tail
    · have eb : evn t = false := decide_eq_false q
      rw [eb] at tail
      refine iX7_play_58 (iX7_play_60 (iX7_play_62 (fun h62 => absurd h62 (f5)) (fun h62 => ?_)))
      refine iX7_play_65 (iX7_play_66 (iX7_play_69 (iX7_play_71 (iX7_play_72 (iX7_play_74 (iX7_play_75 (iX7_play_77 (iX7_play_78 (iX7_play_79 (by decide) ?_)))))))))
      rw [er, show t % 2 = 1 by omega]
      refine iX7_play_80 (fun h80 => ?_) (fun h80 => by first | exact absurd ((by decide)) h80 | exact absurd h80 ((by decide)))
      refine iX7_play_87 ?_
      exact tail
theorem c_play3 (h : Wd I0 nB nS ls) {bs n : Int32} {g : Nat → Nat} (hg : ∀ w, g w ≤ 12) {N : Nat} {wd : Nat} (hwd : wd < 10) (ew : I0 14 0 = nI wd) : ∀ (t l : Nat), t + l + 1 = N → t < 5 → ∀ (I : xI) x4, xFr [4, 5, 34, 35, 36] I0 I → (∀ u : Nat, u < 10 → I 35 u = nI (V g l (!evn t) u)) → WP 12 (1000000, 0, 0) none M_X7_play (fun r g0 i j => r = none ∧ g0 = xG1 ∧ xFr [4, 5, 34, 35, 36] I0 i ∧ j = J ∧ i 34 3 = nI (V g N true wd) ∧ i 34 4 = nI (ch true (V g (N - 1) false) wd)) 51 [some (.ref 34), some (.int bs), some (.int n), some (.int (nI t)), x4] [] xG1 I J := by
  intro t
  induction t with
  | zero =>
    intro l hl ht I x4 hI hE
    have fI := Fq.of hI (by decide)
    have wI := h.fr fI
    obtain ⟨hB, hS⟩ := wI.le
    have e7 : f_get I 0 7 = nI wd := (f_get_its 7 (by omega) (by omega)).trans (by rw [show I (7 + 7) 0 = I0 14 0 by rw [fI.1 14 (by decide) (by decide)]]; exact ew)
    have hN : N - 1 = l := by omega
    have hN2 : N = l + 1 := by omega
    have hE : ∀ u : Nat, u < 10 → I 35 u = nI (V g l false u) := hE
    have sp := s_X7_choice (J := J) hE (V_le hg l false) true (w := wd) hwd
    generalize hI2 : xu I 34 4 (nI (ch true (V g l false) wd)) = I2
    have f2 : xFr [4, 5, 34, 35, 36] I I2 := by rw [← hI2]; exact xFr.rf.up (by decide)
    have fI2 := Fq.of (hI.tr f2) (by decide)
    have wI2 := h.fr fI2
    obtain ⟨hB2, hS2⟩ := wI2.le
    have e72 : f_get I2 0 7 = nI wd := (f_get_its 7 (by omega) (by omega)).trans (by rw [show I2 (7 + 7) 0 = I0 14 0 by rw [fI2.1 14 (by decide) (by decide)]]; exact ew)
    have e34 : I2 34 4 = nI (ch true (V g l false) wd) := by rw [← hI2]; exact xu_eq
    have se := s_X7_end (I := I2) (J := J) (e := V g l false) (fun u hu => by rw [← hI2, xu_rowf (by decide)]; exact hE u hu) hwd (ch_lt (f := true) (e := V g l false) (w := wd))
    have eV : V g l false (wm wd (ch true (V g l false) wd)) = V g (l + 1) true wd := V_ch (f := true)
    rw [eV] at se
    rw [hN, hN2]
    refine iX7_play_51 (iX7_play_52 (fun h52 => ?_) (fun h52 => by first | exact absurd ((by decide : nI 0 ≤ 0)) h52 | exact absurd h52 ((by decide : nI 0 ≤ 0))))
    refine iX7_play_122 (iX7_play_123 (iX7_play_124 (iX7_play_125 (iX7_play_128 (iX7_play_130 (s_X5_its 7 hB hS) ?_)))))
    rw [e7]
    refine iX7_play_133 (iX7_play_134 sp (iX7_play_137 ?_))
    refine WP_I hI2 ?_
    refine iX7_play_140 (iX7_play_141 (iX7_play_142 (iX7_play_143 (iX7_play_146 (iX7_play_148 (s_X5_its 7 hB2 hS2) ?_)))))
    rw [e72]
    refine iX7_play_151 (iX7_play_152 ?_)
    rw [e34]
    refine iX7_play_155 se (iX7_play_158 (iX7_play_161 ?_))
    exact ⟨rfl, rfl, (hI.tr f2).up (by decide), rfl, xu_eq, (xu_col (by decide)).trans e34⟩
  | succ t ih =>
    intro l hl ht I x4 hI hE
    have n52 : ¬ nI (t + 1) ≤ 0 := nI_nle (by omega) (by omega)
    have em : nI (t + 1) + (-1) = nI t := pk_m1 _
    have eV : ∀ w, V g l (!evn (t + 1)) (wm w (ch (evn (t + 1)) (V g l (!evn (t + 1))) w)) = V g (l + 1) (evn (t + 1)) w := fun w => V_ch
    have tail : ∀ (I2 : xI) x4, xFr [4, 5, 34, 35, 36] I0 I2 → (∀ w : Nat, w < 10 → I2 36 w = nI (V g l (!evn (t + 1)) (wm w (ch (evn (t + 1)) (V g l (!evn (t + 1))) w)))) → WP 12 (1000000, 0, 0) none M_X7_play (fun r g0 i j => r = none ∧ g0 = xG1 ∧ xFr [4, 5, 34, 35, 36] I0 i ∧ j = J ∧ i 34 3 = nI (V g N true wd) ∧ i 34 4 = nI (ch true (V g (N - 1) false) wd)) 101 [some (.ref 34), some (.int bs), some (.int n), some (.int (nI (t + 1))), x4] [] xG1 I2 J := by
      intro I2 x4 h2 h36
      refine iX7_play_101 (iX7_play_102 (iX7_play_105 (iX7_play_106 (iX7_play_107 (iX7_play_110 (iX7_play_111 (iX7_play_113 (by decide) (by decide) (by decide) (by decide) (by decide) (iX7_play_116 (iX7_play_119 ?_)))))))))
      rw [em]
      refine ih (l + 1) (by omega) (by omega) _ _ (h2.tr (fun a ha => xcp_row (fun z => ha (by rw [z]; decide)))) (fun u hu => ?_)
      have : xcp I2 36 35 0 0 10 35 u = I2 36 u := by
        unfold xcp
        rw [if_pos rfl, if_pos ⟨by omega, by omega⟩, Nat.zero_add, Nat.sub_zero]
      exact this.trans ((h36 u hu).trans (by rw [eV u, evn_s]))
    refine iX7_play_51 (iX7_play_52 (fun h52 => absurd h52 (n52)) (fun h52 => ?_))
    refine iX7_play_55 (iX7_play_56 ?_)
    exact c_play2 h (t := t + 1) ht (e := V g l (!evn (t + 1))) (V_le hg l _) tail 10 0 (by omega) I hI hE (fun u hu => absurd hu (by omega))
theorem s_X7_play (h : Wd I0 nB nS ls) (hb : b < nB) (hs : s < nS) {n : Nat} (h1 : 1 ≤ n) (h5 : n ≤ 5) {wd : Nat} (hwd : wd < 10) (ew : I0 14 0 = nI wd) : Spec 12 (1000000, 0, 0) M_X7_play [.ref 34, .int (nI (10 * b + s)), .int (nI n)] xG1 I0 J (fun r g0 i j => r = none ∧ g0 = xG1 ∧ xFr [4, 5, 34, 35, 36] I0 i ∧ j = J ∧ i 34 3 = nI (V (gW I0 ls b s) n true wd) ∧ i 34 4 = nI (ch true (V (gW I0 ls b s) (n - 1) false) wd)) := by
  refine spec_of (L := [some (.ref 34), some (.int (nI (10 * b + s))), some (.int (nI n)), none, none]) (by decide) (Nat.le_of_ble_eq_true rfl) rfl ?_
  refine iX7_play_0 (iX7_play_1 ?_)
  refine c_play1 h hb hs (fun I x4 hI hE => ?_) 10 0 (by omega) I0 _ xFr.rf (fun u hu => absurd hu (by omega))
  have em : nI n - 1 = nI (n - 1) := by rw [show nI n = nI (n - 1 + 1) by rw [Nat.sub_add_cancel h1]]; exact nI_pred _
  refine iX7_play_47 (iX7_play_48 (iX7_play_49 (iX7_play_50 ?_)))
  rw [em]
  exact c_play3 h (fun w => cyN_le) hwd ew (n - 1) 0 (by omega) (by omega) I x4 hI hE
end
