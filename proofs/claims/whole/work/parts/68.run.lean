/-! ===== an agenda's run, of both ===== -/
def aGet (A : List (Nat × Nat)) (i : Nat) : Nat × Nat := A.getD i (0, 0)
theorem aGet_some {A : List (Nat × Nat)} {i : Nat} (h : i < A.length) : A[i]? = some (aGet A i) := by
  unfold aGet
  rw [List.getD, List.getElem?_eq_getElem h]
  rfl
noncomputable def clR (I : xI) (ls : lwT) (A : List (Nat × Nat)) (g : Nat → Bool) (si : Nat) : Nat → List (Nat × Nat)
  | 0 => [(1, si)]
  | i + 1 => stL (crx I ls (aGet A i)) (thx I (aGet A i)) (g i) (clR I ls A g si i)
noncomputable def psR (I : xI) (ls : lwT) (A : List (Nat × Nat)) (g : Nat → Bool) (si i : Nat) : Nat := psd (crx I ls (aGet A i)) (clR I ls A g si i)
noncomputable def woR (I : xI) (ls : lwT) (A : List (Nat × Nat)) (si : Nat) : Nat → Nat
  | 0 => 0
  | i + 1 => woR I ls A si i * 12 + psR I ls A (fun _ => true) si i * fB I 3 (aGet A i).1
theorem clR_ok {I : xI} {ls : lwT} {A : List (Nat × Nat)} {g : Nat → Bool} {si : Nat} (hs : si ≤ 95) : ∀ i : Nat, (clR I ls A g si i).length = i + 1 ∧ lsum (clR I ls A g si i) (fun _ => 1) ≤ 12 ^ i ∧ ∀ p ∈ clR I ls A g si i, p.2 ≤ 95
  | 0 => ⟨rfl, by simp [clR, lsum], fun p hp => by simp [clR] at hp; rw [hp]; exact hs⟩
  | i + 1 => by
    obtain ⟨h1, h2, h3⟩ := clR_ok (I := I) (ls := ls) (A := A) (g := g) hs i
    refine ⟨by simp only [clR]; rw [stL_len, h1], ?_, stL_lt thx_le⟩
    have := tot_st (cr := crx I ls (aGet A i)) (th := thx I (aGet A i)) (go := g i) (cl := clR I ls A g si i) crx_le
    simp only [clR]
    rw [Nat.pow_succ]
    omega
theorem psR_le {I : xI} {ls : lwT} {A : List (Nat × Nat)} {g : Nat → Bool} {si : Nat} (hs : si ≤ 95) (i : Nat) : psR I ls A g si i ≤ 12 ^ (i + 1) := by
  obtain ⟨h1, h2, h3⟩ := clR_ok (I := I) (ls := ls) (A := A) (g := g) hs i
  have : psR I ls A g si i ≤ 12 * lsum (clR I ls A g si i) (fun _ => 1) := lsum_bd (fun x => Nat.sub_le _ _) _
  rw [Nat.pow_succ]
  omega
theorem woR_le {I : xI} {ls : lwT} {A : List (Nat × Nat)} {si : Nat} (hs : si ≤ 95) (hb : ∀ i, i < 10 → fB I 3 (aGet A i).1 ≤ 99) : ∀ i : Nat, i ≤ 10 → woR I ls A si i ≤ 99 * i * 12 ^ i
  | 0, _ => by simp [woR]
  | i + 1, hi => by
    have h1 := woR_le (I := I) (ls := ls) (A := A) hs hb i (by omega)
    have h2 := psR_le (I := I) (ls := ls) (A := A) (g := fun _ => true) hs i
    have h3 := hb i (by omega)
    have h4 : psR I ls A (fun _ => true) si i * fB I 3 (aGet A i).1 ≤ 12 ^ (i + 1) * 99 := Nat.mul_le_mul h2 h3
    have h5 : woR I ls A si i * 12 ≤ 99 * i * 12 ^ i * 12 := Nat.mul_le_mul_right _ h1
    simp only [woR]
    rw [show 99 * (i + 1) * 12 ^ (i + 1) = 99 * i * 12 ^ i * 12 + 12 ^ (i + 1) * 99 by rw [Nat.pow_succ, Nat.mul_add, Nat.add_mul, Nat.mul_one, Nat.mul_assoc (99 * i), Nat.mul_comm 99 (12 ^ i * 12)]]
    omega
theorem clR_fr {I I' : xI} (h : Fq I I') {ls : lwT} {A : List (Nat × Nat)} {g : Nat → Bool} {si : Nat} : ∀ i, clR I' ls A g si i = clR I ls A g si i
  | 0 => rfl
  | i + 1 => by
    simp only [clR]
    rw [clR_fr h i, crx_fr h, thx_fr h]
theorem psR_fr {I I' : xI} (h : Fq I I') {ls : lwT} {A : List (Nat × Nat)} {g : Nat → Bool} {si i : Nat} : psR I' ls A g si i = psR I ls A g si i := by
  unfold psR
  rw [clR_fr h, crx_fr h]
theorem woR_fr {I I' : xI} (h : Fq I I') {ls : lwT} {A : List (Nat × Nat)} {si : Nat} : ∀ i, woR I' ls A si i = woR I ls A si i
  | 0 => rfl
  | i + 1 => by
    simp only [woR]
    rw [woR_fr h i, psR_fr h, fB_fr h (by omega)]
def ppR (p : Nat → Nat) : Nat → Nat
  | 0 => 0
  | i + 1 => p i
section
variable {I0 : xI} {J0 : xJ} {nB nS : Nat} {ls : lwT} {A : List (Nat × Nat)} {si : Nat}
theorem s_X11_twelves {n : Nat} (hn : n ≤ 11) : SpecF 0 M_X11_twelves [.int (nI n)] xG1 I0 J0 (some (.long (lN (12 ^ n)))) I0 J0 := by
  refine specF_of (L := [some (.int (nI n)), none, none, none]) (by decide) (Nat.le_of_ble_eq_true rfl) rfl ?_
  have key : ∀ m i : Nat, i + m = n → WP 0 (1000000, 0, 0) none M_X11_twelves (fun r g i j => r = some (.long (lN (12 ^ n))) ∧ g = xG1 ∧ i = I0 ∧ j = J0) 4 [some (.int (nI n)), some (.long (lN (12 ^ i))), none, some (.int (nI i))] [] xG1 I0 J0 := by
    intro m
    induction m with
    | zero =>
      intro i hi
      obtain rfl : i = n := by omega
      refine iX11_twelves_4 (iX11_twelves_5 (iX11_twelves_6 (fun h6 => ?_) (fun h6 => by first | exact absurd (Int32.le_refl _) h6 | exact absurd h6 (Int32.le_refl _))))
      refine iX11_twelves_21 (iX11_twelves_22 ?_)
      exact ⟨rfl, rfl, rfl, rfl⟩
    | succ m ih =>
      intro i hi
      have ei : nI i + (1) = nI (i + 1) := nI_1 _
      have em : lN (12 ^ i) * 12 = lN (12 ^ (i + 1)) := (lN_mul (12 ^ i) 12).trans (by rw [Nat.pow_succ])
      refine iX11_twelves_4 (iX11_twelves_5 (iX11_twelves_6 (fun h6 => absurd h6 (nI_ge (by omega) (by omega))) (fun h6 => ?_)))
      refine iX11_twelves_9 (iX11_twelves_10 (iX11_twelves_13 ?_))
      rw [em]
      refine iX11_twelves_14 (iX11_twelves_15 (iX11_twelves_18 ?_))
      rw [ei]
      exact ih (i + 1) (by omega)
  exact iX11_twelves_0 (iX11_twelves_1 (iX11_twelves_2 (iX11_twelves_3 (key n 0 (by omega)))))
/-- the class's state behind i readings -/
def StC (I0 : xI) (J0 : xJ) (ls : lwT) (A : List (Nat × Nat)) (g : Nat → Bool) (si i : Nat) (I : xI) (J : xJ) : Prop := xFr [4, 5, 28] I0 I ∧ xFJ [27] J0 J ∧ CS (J 27) (I 28) (clR I0 ls A g si i)
theorem c_stepR (h : Wd I0 nB nS ls) (hA : agOk nB nS A) (hAg : AgC I0 A) (hs : si ≤ 95) {g : Nat → Bool} {i : Nat} (hi : i < A.length) {I : xI} {J : xJ} (hS : StC I0 J0 ls A g si i I J) : Spec 15 (1000000, 0, 0) M_X0_step [.ref 25, .int (nI i), .int (bI (g i))] xG1 I J (fun r g1 i' j' => r = some (.long (lN (psR I0 ls A g si i))) ∧ g1 = xG1 ∧ StC I0 J0 ls A g si (i + 1) i' j') := by
  obtain ⟨h1, h2, h3⟩ := hS
  have f1 := Fq.of h1 (by decide)
  obtain ⟨l1, l2, l3⟩ := clR_ok (I := I0) (ls := ls) (A := A) (g := g) hs i
  have sp := s_X0_step (J0 := J) (h.fr f1) hA (A := A) ⟨by rw [h1 25 (by decide)]; exact hAg.1, by rw [h1 26 (by decide)]; exact hAg.2⟩ (aGet_some hi) l1 l2 (g i) h3
  rw [crx_fr f1, thx_fr f1] at sp
  refine Spec.weaken (sc := none) sp (fun r g1 i' j' hp => ?_)
  obtain ⟨p1, p2, p3, p4, p5⟩ := hp
  exact ⟨p1, p2, h1.tr p3, h2.tr p4, p5⟩
theorem c_begin (h : Wd I0 nB nS ls) (hs : si ≤ 95) (e15 : I0 15 0 = nI si) {g : Nat → Bool} : Spec 4 (1000000, 0, 0) M_X0_begin [.ref 25] xG1 I0 J0 (fun r g1 i' j' => r = none ∧ g1 = xG1 ∧ StC I0 J0 ls A g si 0 i' j') :=
  Spec.weaken (sc := none) (s_X0_begin h hs e15) (fun _ _ _ _ ⟨p1, p2, p3, p4, p5⟩ => ⟨p1, p2, p3, p4, p5⟩)
theorem s_X0_passing (h : Wd I0 nB nS ls) (hA : agOk nB nS A) (hAg : AgC I0 A) (hs : si ≤ 95) (e15 : I0 15 0 = nI si) {k : Nat} (hk : k < A.length) : Spec 20 (1000000, 0, 0) M_X0_passing [.ref 25, .int (nI k)] xG1 I0 J0 (fun r g i j => r = some (.long (lN (psR I0 ls A (fun _ => true) si k))) ∧ g = xG1 ∧ xFr [4, 5, 28] I0 i ∧ xFJ [27] J0 j) := by
  have hA1 := hA.1
  refine spec_of (L := [some (.ref 25), some (.int (nI k)), none, none, none]) (by decide) (Nat.le_of_ble_eq_true rfl) rfl ?_
  have key : ∀ (m i : Nat), i + m = k + 1 → ∀ (I : xI) (J : xJ), StC I0 J0 ls A (fun _ => true) si i I J → WP 20 (1000000, 0, 0) none M_X0_passing (fun r g i j => r = some (.long (lN (psR I0 ls A (fun _ => true) si k))) ∧ g = xG1 ∧ xFr [4, 5, 28] I0 i ∧ xFJ [27] J0 j) 9 [some (.ref 25), some (.int (nI k)), some (.long (lN (ppR (psR I0 ls A (fun _ => true) si) i))), none, some (.int (nI i))] [] xG1 I J := by
    intro m
    induction m with
    | zero =>
      intro i hi I J hS
      obtain rfl : i = k + 1 := by omega
      refine iX0_passing_9 (iX0_passing_11 (iX0_passing_12 (fun h12 => ?_) (fun h12 => by first | exact absurd (nI_lt (by omega) (by omega)) h12 | exact absurd h12 (nI_lt (by omega) (by omega)))))
      refine iX0_passing_29 (iX0_passing_30 ?_)
      exact ⟨rfl, rfl, hS.1, hS.2.1⟩
    | succ m ih =>
      intro i hi I J hS
      have ei : nI i + (1) = nI (i + 1) := nI_1 _
      have sp := c_stepR h hA hAg hs (i := i) (by omega) hS
      refine iX0_passing_9 (iX0_passing_11 (iX0_passing_12 (fun h12 => absurd h12 (nI_nlt (by omega) (by omega))) (fun h12 => ?_)))
      refine iX0_passing_15 (iX0_passing_16 (iX0_passing_18 (jX0_passing_19 sp (fun r19 g19 I19 J19 hq => ?_))))
      obtain ⟨rfl, rfl, hq3⟩ := hq
      refine iX0_passing_22 (iX0_passing_23 (iX0_passing_26 ?_))
      rw [ei]
      exact ih (i + 1) (by omega) _ _ hq3
  refine iX0_passing_0 (jX0_passing_1 (c_begin (A := A) (g := fun _ => true) h hs e15) (fun r1 g1 I1 J1 hq => ?_))
  obtain ⟨rfl, rfl, hq3⟩ := hq
  refine iX0_passing_4 (iX0_passing_5 (iX0_passing_6 (iX0_passing_7 ?_)))
  exact key (k + 1) 0 (by omega) _ _ hq3
theorem lsum_take {cl : List (Nat × Nat)} {c : Nat} : lsum (cl.take (c + 1)) (fun _ => 1) = lsum (cl.take c) (fun _ => 1) + (match cl[c]? with | some p => p.1 | none => 0) := by
  rw [List.take_succ, lsum_app]
  cases cl[c]? with
  | none => rfl
  | some p => simp [lsum]
theorem s_X0_quietFrom (h : Wd I0 nB nS ls) (hA : agOk nB nS A) (hAg : AgC I0 A) (hs : si ≤ 95) (e15 : I0 15 0 = nI si) {k n : Nat} (hn : n ≤ A.length) (hk : k ≤ 10) : Spec 20 (1000000, 0, 0) M_X0_quietFrom [.ref 25, .int (nI k), .int (nI n)] xG1 I0 J0 (fun r g i j => r = some (.long (lN (lsum (clR I0 ls A (fun j => decide (j < k)) si n) (fun _ => 1)))) ∧ g = xG1 ∧ xFr [4, 5, 28] I0 i ∧ xFJ [27] J0 j) := by
  have hA1 := hA.1
  refine spec_of (L := [some (.ref 25), some (.int (nI k)), some (.int (nI n)), none, none, none]) (by decide) (Nat.le_of_ble_eq_true rfl) rfl ?_
  obtain ⟨l1, l2, l3⟩ := clR_ok (I := I0) (ls := ls) (A := A) (g := fun j => decide (j < k)) hs n
  have sumk : ∀ (m c : Nat), c + m = 11 → ∀ (I : xI) (J : xJ), StC I0 J0 ls A (fun j => decide (j < k)) si n I J → WP 20 (1000000, 0, 0) none M_X0_quietFrom (fun r g i j => r = some (.long (lN (lsum (clR I0 ls A (fun j => decide (j < k)) si n) (fun _ => 1)))) ∧ g = xG1 ∧ xFr [4, 5, 28] I0 i ∧ xFJ [27] J0 j) 38 [some (.ref 25), some (.int (nI k)), some (.int (nI n)), some (.long (lN (lsum ((clR I0 ls A (fun j => decide (j < k)) si n).take c) (fun _ => 1)))), none, some (.int (nI c))] [] xG1 I J := by
    intro m
    induction m with
    | zero =>
      intro c hc I J hS
      obtain rfl : c = 11 := by omega
      refine iX0_quietFrom_38 (iX0_quietFrom_40 (iX0_quietFrom_41 (iX0_quietFrom_44 (iX0_quietFrom_45 (fun h45 => ?_) (fun h45 => by first | exact absurd (Int32.le_refl _) h45 | exact absurd h45 (Int32.le_refl _))))))
      refine iX0_quietFrom_64 (iX0_quietFrom_65 ?_)
      refine ⟨?_, rfl, hS.1, hS.2.1⟩
      rw [List.take_of_length_le (by omega)]
    | succ m ih =>
      intro c hc I J hS
      have ei : nI c + (1) = nI (c + 1) := nI_1 _
      have f45 : ¬ (11 : Int32) ≤ nI c := nI_ge (b := 11) (a := c) (by omega) (by omega)
      have eJ : J 27 c = lN (match (clR I0 ls A (fun j => decide (j < k)) si n)[c]? with | some p => p.1 | none => 0) := by
        obtain ⟨s1, s2, s3⟩ := hS.2.2
        cases hcl : (clR I0 ls A (fun j => decide (j < k)) si n)[c]? with
        | some p => exact (s1 c p hcl).1
        | none => exact s2 c (List.getElem?_eq_none_iff.mp hcl) (by omega)
      have ih := ih (c + 1) (by omega) I J hS
      rw [lsum_take] at ih
      refine iX0_quietFrom_38 (iX0_quietFrom_40 (iX0_quietFrom_41 (iX0_quietFrom_44 (iX0_quietFrom_45 (fun h45 => absurd h45 (f45)) (fun h45 => ?_)))))
      refine iX0_quietFrom_48 (iX0_quietFrom_49 (iX0_quietFrom_50 (iX0_quietFrom_53 (iX0_quietFrom_55 (vp_in_nI (by omega) (by omega)) ?_))))
      rw [nI_clamp (by omega), eJ]
      refine iX0_quietFrom_56 ?_
      rw [lN_add]
      refine iX0_quietFrom_57 (iX0_quietFrom_58 (iX0_quietFrom_61 ?_))
      rw [ei]
      exact ih
  have key : ∀ (m i : Nat), i + m = n → ∀ (I : xI) (J : xJ) (a5 : Option Value), StC I0 J0 ls A (fun j => decide (j < k)) si i I J → WP 20 (1000000, 0, 0) none M_X0_quietFrom (fun r g i j => r = some (.long (lN (lsum (clR I0 ls A (fun j => decide (j < k)) si n) (fun _ => 1)))) ∧ g = xG1 ∧ xFr [4, 5, 28] I0 i ∧ xFJ [27] J0 j) 6 [some (.ref 25), some (.int (nI k)), some (.int (nI n)), some (.int (nI i)), none, a5] [] xG1 I J := by
    intro m
    induction m with
    | zero =>
      intro i hi I J a5 hS
      obtain rfl : i = n := by omega
      refine iX0_quietFrom_6 (iX0_quietFrom_7 (iX0_quietFrom_8 (fun h8 => ?_) (fun h8 => by first | exact absurd (Int32.le_refl _) h8 | exact absurd h8 (Int32.le_refl _))))
      refine iX0_quietFrom_33 (iX0_quietFrom_34 (iX0_quietFrom_35 (iX0_quietFrom_36 ?_)))
      exact sumk 11 0 (by omega) I J hS
    | succ m ih =>
      intro i hi I J a5 hS
      have ei : nI i + (1) = nI (i + 1) := nI_1 _
      have sp := c_stepR h hA hAg hs (i := i) (by omega) hS
      by_cases q : i < k
      · rw [show decide (i < k) = true from decide_eq_true q] at sp
        refine iX0_quietFrom_6 (iX0_quietFrom_7 (iX0_quietFrom_8 (fun h8 => absurd h8 (nI_ge (by omega) (by omega))) (fun h8 => ?_)))
        refine iX0_quietFrom_11 (iX0_quietFrom_12 (iX0_quietFrom_13 (iX0_quietFrom_14 (iX0_quietFrom_15 (fun h15 => absurd h15 (nI_ge q (by omega))) (fun h15 => ?_)))))
        refine iX0_quietFrom_18 (iX0_quietFrom_19 (jX0_quietFrom_23 sp (fun r23 g23 I23 J23 hq => ?_)))
        obtain ⟨rfl, rfl, hq3⟩ := hq
        refine iX0_quietFrom_26 (iX0_quietFrom_27 (iX0_quietFrom_30 ?_))
        rw [ei]
        exact ih (i + 1) (by omega) _ _ _ hq3
      · rw [show decide (i < k) = false from decide_eq_false q] at sp
        refine iX0_quietFrom_6 (iX0_quietFrom_7 (iX0_quietFrom_8 (fun h8 => absurd h8 (nI_ge (by omega) (by omega))) (fun h8 => ?_)))
        refine iX0_quietFrom_11 (iX0_quietFrom_12 (iX0_quietFrom_13 (iX0_quietFrom_14 (iX0_quietFrom_15 (fun h15 => ?_) (fun h15 => by first | exact absurd (nI_le (a := k) (b := i) (by omega) (by omega)) h15 | exact absurd h15 (nI_le (a := k) (b := i) (by omega) (by omega)))))))
        refine iX0_quietFrom_22 (jX0_quietFrom_23 sp (fun r23 g23 I23 J23 hq => ?_))
        obtain ⟨rfl, rfl, hq3⟩ := hq
        refine iX0_quietFrom_26 (iX0_quietFrom_27 (iX0_quietFrom_30 ?_))
        rw [ei]
        exact ih (i + 1) (by omega) _ _ _ hq3
  refine iX0_quietFrom_0 (jX0_quietFrom_1 (c_begin (A := A) (g := fun j => decide (j < k)) h hs e15) (fun r1 g1 I1 J1 hq => ?_))
  obtain ⟨rfl, rfl, hq3⟩ := hq
  refine iX0_quietFrom_4 (iX0_quietFrom_5 ?_)
  exact key n 0 (by omega) _ _ _ hq3
theorem s_X0_worthOf (h : Wd I0 nB nS ls) (hA : agOk nB nS A) (hAg : AgC I0 A) (hs : si ≤ 95) (e15 : I0 15 0 = nI si) {n : Nat} (hn : n ≤ A.length) : Spec 20 (1000000, 0, 0) M_X0_worthOf [.ref 25, .int (nI n)] xG1 I0 J0 (fun r g i j => r = some (.long (lN (woR I0 ls A si n))) ∧ g = xG1 ∧ xFr [4, 5, 28] I0 i ∧ xFJ [27] J0 j) := by
  have hA1 := hA.1
  refine spec_of (L := [some (.ref 25), some (.int (nI n)), none, none, none]) (by decide) (Nat.le_of_ble_eq_true rfl) rfl ?_
  have key : ∀ (m i : Nat), i + m = n → ∀ (I : xI) (J : xJ), StC I0 J0 ls A (fun _ => true) si i I J → WP 20 (1000000, 0, 0) none M_X0_worthOf (fun r g i j => r = some (.long (lN (woR I0 ls A si n))) ∧ g = xG1 ∧ xFr [4, 5, 28] I0 i ∧ xFJ [27] J0 j) 9 [some (.ref 25), some (.int (nI n)), some (.long (lN (woR I0 ls A si i))), none, some (.int (nI i))] [] xG1 I J := by
    intro m
    induction m with
    | zero =>
      intro i hi I J hS
      obtain rfl : i = n := by omega
      refine iX0_worthOf_9 (iX0_worthOf_11 (iX0_worthOf_12 (fun h12 => ?_) (fun h12 => by first | exact absurd (Int32.le_refl _) h12 | exact absurd h12 (Int32.le_refl _))))
      refine iX0_worthOf_60 (iX0_worthOf_61 ?_)
      exact ⟨rfl, rfl, hS.1, hS.2.1⟩
    | succ m ih =>
      intro i hi I J hS
      have ei : nI i + (1) = nI (i + 1) := nI_1 _
      have sp := c_stepR h hA hAg hs (i := i) (by omega) hS
      have hx := aGet_some (A := A) (i := i) (by omega)
      obtain ⟨hb, hsn⟩ := hA.2 _ (List.mem_of_getElem? hx)
      have hb10 : (aGet A i).1 < 10 := by have := h.2.1; omega
      have hs10 : (aGet A i).2 < 10 := by have := h.2.2.2.1; omega
      have e4 : I 25 4 = nI A.length := by rw [hS.1 25 (by decide)]; exact hAg.1
      have f3 := fB_b h.2.2.2.2.2.2.1 hb10
      have em : lN (woR I0 ls A si i) * 12 = lN (woR I0 ls A si i * 12) := lN_mul _ 12
      have ew : (nI (fB I0 3 (aGet A i).1)).toInt64 = lN (fB I0 3 (aGet A i).1) := nI_l (by have := f3.2.2.2.1; omega)
      have eN : lN (woR I0 ls A si i * 12 + psR I0 ls A (fun _ => true) si i * fB I0 3 (aGet A i).1) = lN (woR I0 ls A si (i + 1)) := rfl
      refine iX0_worthOf_9 (iX0_worthOf_11 (iX0_worthOf_12 (fun h12 => absurd h12 (nI_ge (by omega) (by omega))) (fun h12 => ?_)))
      refine iX0_worthOf_15 (iX0_worthOf_17 (iX0_worthOf_18 ?_))
      rw [e4]
      refine iX0_worthOf_21 (fun h21 => absurd h21 (nI_ge (by omega) (by omega))) (fun h21 => ?_)
      refine iX0_worthOf_24 (iX0_worthOf_25 (iX0_worthOf_28 ?_))
      rw [em]
      refine iX0_worthOf_29 (iX0_worthOf_30 (iX0_worthOf_32 (jX0_worthOf_33 sp (fun r33 g33 I33 J33 hq => ?_))))
      obtain ⟨rfl, rfl, hq3⟩ := hq
      have f1 := Fq.of hq3.1 (by decide)
      have w1 := h.fr f1
      obtain ⟨hB1, hS1⟩ := w1.le
      have e26 : I33 26 (nI i).toNatClampNeg = nI (10 * (aGet A i).1 + (aGet A i).2) := by
        rw [nI_clamp (by omega), hq3.1 26 (by decide)]
        exact hAg.2 i _ hx
      have eg : f_get I33 (nI (10 * (aGet A i).1 + (aGet A i).2) / 10) 3 = nI (fB I0 3 (aGet A i).1) := by
        rw [bs_div hb10 hs10, show f_get I33 (nI (aGet A i).1) 3 = I33 10 (aGet A i).1 from get_b w1 hb (w := 3) (by omega), f1.1 10 (by decide) (by decide)]
        exact f3.2.1
      refine iX0_worthOf_36 (iX0_worthOf_37 (iX0_worthOf_40 (iX0_worthOf_41 (iX0_worthOf_44 (iX0_worthOf_46 (vp_in_nI (by omega) (by omega)) ?_)))))
      rw [e26]
      refine iX0_worthOf_47 (s_X5_worth _ hB1 hS1) ?_
      rw [eg]
      refine iX0_worthOf_50 ?_
      rw [ew]
      refine iX0_worthOf_51 ?_
      rw [lN_mul]
      refine iX0_worthOf_52 ?_
      rw [lN_add, eN]
      refine iX0_worthOf_53 (iX0_worthOf_54 (iX0_worthOf_57 ?_))
      rw [ei]
      exact ih (i + 1) (by omega) _ _ hq3
  refine iX0_worthOf_0 (jX0_worthOf_1 (c_begin (A := A) (g := fun _ => true) h hs e15) (fun r1 g1 I1 J1 hq => ?_))
  obtain ⟨rfl, rfl, hq3⟩ := hq
  refine iX0_worthOf_4 (iX0_worthOf_5 (iX0_worthOf_6 (iX0_worthOf_7 ?_)))
  exact key n 0 (by omega) _ _ hq3
/-! the reference's -/
def StM (I0 : xI) (J0 : xJ) (ls : lwT) (A : List (Nat × Nat)) (g : Nat → Bool) (si i : Nat) (I : xI) (J : xJ) : Prop := xFr [75, 76] I0 I ∧ xFJ [57, 78, 79] J0 J ∧ MW (J 78) (wsum (clR I0 ls A g si i)) ∧ J 57 34 = lN (12 ^ i) ∧ J 57 39 = J0 57 39
/-- readings lie at the reference's places -/
def AtM (I : xI) (nB nS : Nat) (A : List (Nat × Nat)) (n : Nat) : Prop := n ≤ 10 ∧ ∀ i : Nat, i < n → I 77 i = nI (10 * (aGet A i).1 + (aGet A i).2) ∧ (aGet A i).1 < nB ∧ (aGet A i).2 < nS
theorem AtM.of (hA : agOk nB nS A) (hAg : AgM I0 A) : AtM I0 nB nS A A.length := ⟨hA.1, fun i hi => ⟨hAg.2 i _ (aGet_some hi), (hA.2 _ (List.mem_of_getElem? (aGet_some hi))).1, (hA.2 _ (List.mem_of_getElem? (aGet_some hi))).2⟩⟩
theorem m_stepR (h : Wd I0 nB nS ls) (hs : si ≤ 95) {n : Nat} (hAt : AtM I0 nB nS A n) {g : Nat → Bool} {i : Nat} (hi : i < n) {I : xI} {J : xJ} (hS : StM I0 J0 ls A g si i I J) : Spec 15 (1000000, 0, 0) M_X12_goReading [.ref 57, .int (nI (10 * (aGet A i).1 + (aGet A i).2)), .int (bI (!g i))] xG1 I J (fun r g1 i' j' => r = none ∧ g1 = xG1 ∧ StM I0 J0 ls A g si (i + 1) i' j' ∧ j' 57 35 = lN (psR I0 ls A g si i) ∧ j' 57 36 = J 57 36) := by
  obtain ⟨h1, h2, h3, h4, h5⟩ := hS
  have f1 := Fq.of h1 (by decide)
  have hn := hAt.1
  obtain ⟨l1, l2, l3⟩ := clR_ok (I := I0) (ls := ls) (A := A) (g := g) hs i
  obtain ⟨a1, a2, a3⟩ := hAt.2 i hi
  have hp : 12 ^ i ≤ 12 ^ 9 := Nat.pow_le_pow_right (by omega) (by omega)
  have sp := s_X12_goReading (J0 := J) (h.fr f1) (x := aGet A i) a2 a3 l3 (by omega) (g i) h3 h4
  rw [crx_fr f1, thx_fr f1] at sp
  refine Spec.weaken (sc := none) sp (fun r g1 i' j' hp => ?_)
  obtain ⟨p1, p2, p3, p4, p5, p6, p7, p8⟩ := hp
  exact ⟨p1, p2, ⟨h1.tr p3, h2.tr p4, p5, by rw [p7, Nat.pow_succ], by rw [p8 39 (by decide) (by decide)]; exact h5⟩, p6, p8 36 (by decide) (by decide)⟩
theorem m_begin (h : Wd I0 nB nS ls) (hs : si ≤ 95) (e15 : I0 15 0 = nI si) {g : Nat → Bool} : Spec 5 (1000000, 0, 0) M_X12_layWeights [.ref 57] xG1 I0 J0 (fun r g1 i' j' => r = none ∧ g1 = xG1 ∧ StM I0 J0 ls A g si 0 i' j') :=
  Spec.weaken (sc := none) (s_X12_layWeights h hs e15) (fun _ _ _ _ ⟨p1, p2, p3, p4, p5, p6, p7⟩ => ⟨p1, p2, by rw [p3]; exact xFr.rf, fun a ha => p4 a (fun z => ha (by simp only [List.mem_cons, List.not_mem_nil, or_false] at z ⊢; omega)), p5, p6, p7 39 (by decide)⟩)
theorem s_X12_goMean (h : Wd I0 nB nS ls) (hs : si ≤ 95) (e15 : I0 15 0 = nI si) {n : Nat} (hAt : AtM I0 nB nS A n) : Spec 20 (1000000, 0, 0) M_X12_goMean [.ref 57, .int (nI n)] xG1 I0 J0 (fun r g i j => r = none ∧ g = xG1 ∧ xFr [75, 76] I0 i ∧ xFJ [57, 78, 79] J0 j ∧ j 57 36 = lN (woR I0 ls A si n) ∧ j 57 34 = lN (12 ^ n) ∧ j 57 39 = J0 57 39) := by
  have hn := hAt.1
  refine spec_of (L := [some (.ref 57), some (.int (nI n)), none]) (by decide) (Nat.le_of_ble_eq_true rfl) rfl ?_
  have key : ∀ (m i : Nat), i + m = n → ∀ (I : xI) (J : xJ), StM I0 J0 ls A (fun _ => true) si i I J → J 57 36 = lN (woR I0 ls A si i) → WP 20 (1000000, 0, 0) none M_X12_goMean (fun r g i j => r = none ∧ g = xG1 ∧ xFr [75, 76] I0 i ∧ xFJ [57, 78, 79] J0 j ∧ j 57 36 = lN (woR I0 ls A si n) ∧ j 57 34 = lN (12 ^ n) ∧ j 57 39 = J0 57 39) 11 [some (.ref 57), some (.int (nI n)), some (.int (nI i))] [] xG1 I J := by
    intro m
    induction m with
    | zero =>
      intro i hi I J hS h36
      obtain rfl : i = n := by omega
      refine iX12_goMean_11 (iX12_goMean_12 (iX12_goMean_13 (fun h13 => ?_) (fun h13 => by first | exact absurd (Int32.le_refl _) h13 | exact absurd h13 (Int32.le_refl _))))
      refine iX12_goMean_66 ?_
      exact ⟨rfl, rfl, hS.1, hS.2.1, h36, hS.2.2.2.1, hS.2.2.2.2⟩
    | succ m ih =>
      intro i hi I J hS h36
      have ei : nI i + (1) = nI (i + 1) := nI_1 _
      have sp := m_stepR h hs hAt (i := i) (by omega) hS
      obtain ⟨a1, hb, hsn⟩ := hAt.2 i (by omega)
      have hb10 : (aGet A i).1 < 10 := by have := h.2.1; omega
      have hs10 : (aGet A i).2 < 10 := by have := h.2.2.2.1; omega
      have f3 := fB_b h.2.2.2.2.2.2.1 hb10
      have em : lN (woR I0 ls A si i) * 12 = lN (woR I0 ls A si i * 12) := lN_mul _ 12
      have ew : (nI (fB I0 3 (aGet A i).1)).toInt64 = lN (fB I0 3 (aGet A i).1) := nI_l (by have := f3.2.2.2.1; omega)
      have eN : lN (woR I0 ls A si i * 12 + psR I0 ls A (fun _ => true) si i * fB I0 3 (aGet A i).1) = lN (woR I0 ls A si (i + 1)) := rfl
      have e77 : ∀ I', xFr [75, 76] I0 I' → I' 77 (nI i).toNatClampNeg = nI (10 * (aGet A i).1 + (aGet A i).2) := fun I' hI' => by
        rw [nI_clamp (by omega), hI' 77 (by decide)]
        exact a1
      refine iX12_goMean_11 (iX12_goMean_12 (iX12_goMean_13 (fun h13 => absurd h13 (nI_ge (by omega) (by omega))) (fun h13 => ?_)))
      refine iX12_goMean_16 (iX12_goMean_17 (iX12_goMean_18 (iX12_goMean_21 (iX12_goMean_22 (vp_in_nI (by omega) (by omega)) ?_))))
      rw [e77 I hS.1]
      refine iX12_goMean_23 (jX12_goMean_24 sp (fun r24 g24 I24 J24 hq => ?_))
      obtain ⟨rfl, rfl, hq3, hq4, hq5⟩ := hq
      refine iX12_goMean_27 (iX12_goMean_28 (iX12_goMean_29 (iX12_goMean_32 ?_)))
      rw [hq5, h36]
      refine iX12_goMean_35 ?_
      rw [em]
      refine iX12_goMean_36 (iX12_goMean_37 ?_)
      rw [hq4]
      refine iX12_goMean_40 (iX12_goMean_41 (iX12_goMean_44 (iX12_goMean_45 (iX12_goMean_48 (iX12_goMean_49 (vp_in_nI (by omega) (by omega)) ?_)))))
      rw [e77 _ hq3.1]
      refine iX12_goMean_50 (iX12_goMean_52 (by decide) ?_)
      rw [bs_div hb10 hs10]
      refine iX12_goMean_53 (vp_in_nI (by omega) (by omega)) ?_
      rw [nI_clamp (by omega), hq3.1 61 (by decide), f3.2.2.2.2.2]
      refine iX12_goMean_54 ?_
      rw [ew]
      refine iX12_goMean_55 ?_
      rw [lN_mul]
      refine iX12_goMean_56 ?_
      rw [lN_add, eN]
      refine iX12_goMean_57 (iX12_goMean_60 (iX12_goMean_63 ?_))
      rw [ei]
      exact ih (i + 1) (by omega) _ _ ⟨hq3.1, hq3.2.1.up (by decide), by rw [xu_rowf (by decide)]; exact hq3.2.2.1, by rw [xu_col (by decide)]; exact hq3.2.2.2.1, by rw [xu_col (by decide)]; exact hq3.2.2.2.2⟩ xu_eq
  refine iX12_goMean_0 (jX12_goMean_1 (m_begin (A := A) (g := fun _ => true) h hs e15) (fun r1 g1 I1 J1 hq => ?_))
  obtain ⟨rfl, rfl, hq3⟩ := hq
  refine iX12_goMean_4 (iX12_goMean_5 (iX12_goMean_6 (iX12_goMean_9 (iX12_goMean_10 ?_))))
  exact key n 0 (by omega) _ _ ⟨hq3.1, hq3.2.1.up (by decide), by rw [xu_rowf (by decide)]; exact hq3.2.2.1, by rw [xu_col (by decide)]; exact hq3.2.2.2.1, by rw [xu_col (by decide)]; exact hq3.2.2.2.2⟩ xu_eq
theorem s_X12_allWeight {W : Nat → Nat} (hW : MW (J0 78) W) : SpecF 1 M_X12_allWeight [.ref 57] xG1 I0 J0 (some (.long (lN (gsum W (fun _ => 1) 96)))) I0 J0 := by
  refine specF_of (L := [some (.ref 57), none, none, none]) (by decide) (Nat.le_of_ble_eq_true rfl) rfl ?_
  have key : ∀ m s : Nat, s + m = 96 → WP 1 (1000000, 0, 0) none M_X12_allWeight (fun r g i j => r = some (.long (lN (gsum W (fun _ => 1) 96))) ∧ g = xG1 ∧ i = I0 ∧ j = J0) 4 [some (.ref 57), some (.long (lN (gsum W (fun _ => 1) s))), none, some (.int (nI s))] [] xG1 I0 J0 := by
    intro m
    induction m with
    | zero =>
      intro s hs
      obtain rfl : s = 96 := by omega
      refine iX12_allWeight_4 (iX12_allWeight_5 (iX12_allWeight_7 (fun h7 => ?_) (fun h7 => by first | exact absurd ((by decide : (95 : Int32) < nI 96)) h7 | exact absurd h7 ((by decide : (95 : Int32) < nI 96)))))
      refine iX12_allWeight_25 (iX12_allWeight_26 ?_)
      exact ⟨rfl, rfl, rfl, rfl⟩
    | succ m ih =>
      intro s hs
      have ei : nI s + (1) = nI (s + 1) := nI_1 _
      have ih := ih (s + 1) (by omega)
      have eg : gsum W (fun _ => 1) (s + 1) = gsum W (fun _ => 1) s + W s := congrArg _ (Nat.mul_one _)
      rw [eg] at ih
      refine iX12_allWeight_4 (iX12_allWeight_5 (iX12_allWeight_7 (fun h7 => absurd h7 (nI_nlt (b := s) (a := 95) (by omega) (by omega))) (fun h7 => ?_)))
      refine iX12_allWeight_10 (iX12_allWeight_11 (iX12_allWeight_12 (iX12_allWeight_15 (iX12_allWeight_16 (vp_in_nI (by omega) (by omega)) ?_))))
      rw [nI_clamp (by omega), hW s (by omega)]
      refine iX12_allWeight_17 ?_
      rw [lN_add]
      refine iX12_allWeight_18 (iX12_allWeight_19 (iX12_allWeight_22 ?_))
      rw [ei]
      exact ih
  have := key 96 0 (by omega)
  exact iX12_allWeight_0 (iX12_allWeight_1 (iX12_allWeight_2 (iX12_allWeight_3 this)))
end
