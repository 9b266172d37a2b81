/-! ===== weights: what both lay, in numbers ===== -/
def lsum : List (Nat × Nat) → (Nat → Nat) → Nat
  | [], _ => 0
  | p :: ps, f => p.1 * f p.2 + lsum ps f
def wsum (cl : List (Nat × Nat)) (s : Nat) : Nat := lsum cl (fun h => if h = s then 1 else 0)
def gsum (W f : Nat → Nat) : Nat → Nat
  | 0 => 0
  | n + 1 => gsum W f n + W n * f n
theorem lsum_app (f : Nat → Nat) : ∀ A B : List (Nat × Nat), lsum (A ++ B) f = lsum A f + lsum B f
  | [], B => by simp [lsum]
  | p :: A, B => by
    simp only [List.cons_append, lsum]
    rw [lsum_app f A B]
    omega
theorem lsum_map (a th f : Nat → Nat) : ∀ A : List (Nat × Nat), lsum (A.map (fun p => (p.1 * a p.2, th p.2))) f = lsum A (fun h => a h * f (th h))
  | [] => rfl
  | p :: A => by
    simp only [List.map_cons, lsum]
    rw [lsum_map a th f A, Nat.mul_assoc]
theorem lsum_add (f g : Nat → Nat) : ∀ A : List (Nat × Nat), lsum A (fun h => f h + g h) = lsum A f + lsum A g
  | [] => rfl
  | p :: A => by
    simp only [lsum]
    rw [lsum_add f g A, Nat.mul_add]
    omega
theorem lsum_con (c : Nat) : ∀ A : List (Nat × Nat), lsum A (fun _ => c) = c * lsum A (fun _ => 1)
  | [] => rfl
  | p :: A => by
    simp only [lsum]
    rw [lsum_con c A, Nat.mul_add, Nat.mul_one, Nat.mul_comm c p.1]
theorem lsum_le {f g : Nat → Nat} (h : ∀ x, f x ≤ g x) : ∀ A : List (Nat × Nat), lsum A f ≤ lsum A g
  | [] => Nat.le_refl _
  | p :: A => Nat.add_le_add (Nat.mul_le_mul_left _ (h _)) (lsum_le h A)
theorem lsum_cong {f g : Nat → Nat} (h : ∀ x, f x = g x) (A : List (Nat × Nat)) : lsum A f = lsum A g := by rw [show f = g from funext h]
theorem lsum_bd {f : Nat → Nat} {M : Nat} (h : ∀ x, f x ≤ M) (A : List (Nat × Nat)) : lsum A f ≤ M * lsum A (fun _ => 1) := by
  rw [← lsum_con]
  exact lsum_le h A
theorem wsum_bd (A : List (Nat × Nat)) (s : Nat) : wsum A s ≤ lsum A (fun _ => 1) := lsum_le (fun x => by split <;> omega) A
theorem gsum_add (a b f : Nat → Nat) : ∀ n, gsum (fun s => a s + b s) f n = gsum a f n + gsum b f n
  | 0 => rfl
  | n + 1 => by
    simp only [gsum]
    rw [gsum_add a b f n, Nat.add_mul]
    omega
theorem gsum_one (w h : Nat) (f : Nat → Nat) : ∀ n, gsum (fun s => w * (if h = s then 1 else 0)) f n = if h < n then w * f h else 0
  | 0 => rfl
  | n + 1 => by
    simp only [gsum]
    rw [gsum_one w h f n]
    by_cases q : h = n
    · subst q
      rw [if_neg (by omega), if_pos rfl, if_pos (by omega), Nat.mul_one, Nat.zero_add]
    · rw [if_neg q, Nat.mul_zero, Nat.zero_mul, Nat.add_zero]
      by_cases q2 : h < n
      · rw [if_pos q2, if_pos (by omega)]
      · rw [if_neg q2, if_neg (by omega)]
theorem gsum_0 (f : Nat → Nat) : ∀ n, gsum (fun _ => 0) f n = 0
  | 0 => rfl
  | n + 1 => by
    simp only [gsum]
    rw [gsum_0 f n, Nat.zero_mul]
theorem gsum_lsum (f : Nat → Nat) (n : Nat) : ∀ A : List (Nat × Nat), (∀ p ∈ A, p.2 < n) → gsum (wsum A) f n = lsum A f
  | [], _ => gsum_0 f n
  | p :: A, h => by
    have e : wsum (p :: A) = fun s => p.1 * (if p.2 = s then 1 else 0) + wsum A s := rfl
    rw [e, gsum_add, gsum_one, if_pos (h p List.mem_cons_self), gsum_lsum f n A (fun q hq => h q (List.mem_cons_of_mem _ hq))]
    rfl
theorem gsum_mono {W f : Nat → Nat} : ∀ {n m : Nat}, n ≤ m → gsum W f n ≤ gsum W f m
  | n, 0, h => by
    obtain rfl : n = 0 := by omega
    exact Nat.le_refl _
  | n, m + 1, h => by
    by_cases q : n = m + 1
    · subst q; exact Nat.le_refl _
    · have := gsum_mono (W := W) (f := f) (n := n) (m := m) (by omega)
      simp only [gsum]
      omega
/-- one reading -/
def stL (cr th : Nat → Nat) (go : Bool) (cl : List (Nat × Nat)) : List (Nat × Nat) := cl.map (fun p => (p.1 * (12 - cr p.2), th p.2)) ++ [(if go = true then lsum cl cr else 0, 0)]
def psd (cr : Nat → Nat) (cl : List (Nat × Nat)) : Nat := lsum cl (fun h => 12 - cr h)
def Ft (cr th : Nat → Nat) (go : Bool) (t s : Nat) : Nat := (if th s = t then 12 - cr s else 0) + (if t = 0 ∧ go = true then cr s else 0)
theorem stL_len {cr th : Nat → Nat} {go : Bool} {cl : List (Nat × Nat)} : (stL cr th go cl).length = cl.length + 1 := by simp [stL]
theorem wsum_st {cr th : Nat → Nat} {go : Bool} {cl : List (Nat × Nat)} {t : Nat} : wsum (stL cr th go cl) t = lsum cl (Ft cr th go t) := by
  unfold wsum stL
  rw [lsum_app, lsum_map (fun h => 12 - cr h) th]
  rw [show Ft cr th go t = fun s => (if th s = t then 12 - cr s else 0) + (if t = 0 ∧ go = true then cr s else 0) from rfl, lsum_add]
  have e1 : lsum cl (fun h => (12 - cr h) * (if th h = t then 1 else 0)) = lsum cl (fun s => if th s = t then 12 - cr s else 0) := lsum_cong (fun x => by split <;> simp) cl
  rw [e1]
  refine congrArg _ ?_
  show _ * (if 0 = t then 1 else 0) + 0 = _
  by_cases q : t = 0
  · subst q
    rw [if_pos rfl, Nat.mul_one, Nat.add_zero]
    cases go with
    | true => rw [if_pos rfl]; exact lsum_cong (fun x => by simp) cl
    | false =>
      rw [if_neg (by decide), lsum_cong (g := fun _ => 0) (fun x => by simp) cl, lsum_con, Nat.zero_mul]
  · have n0 : ¬ 0 = t := fun z => q z.symm
    rw [if_neg n0, Nat.mul_zero, lsum_cong (g := fun _ => 0) (fun x => by simp [q]) cl, lsum_con, Nat.zero_mul]
theorem tot_st {cr th : Nat → Nat} {go : Bool} {cl : List (Nat × Nat)} (h : ∀ x, cr x ≤ 12) : lsum (stL cr th go cl) (fun _ => 1) ≤ 12 * lsum cl (fun _ => 1) := by
  unfold stL
  rw [lsum_app, lsum_map (fun h => 12 - cr h) th, ← lsum_con 12]
  have e : lsum cl (fun _ => 12) = lsum cl (fun h => (12 - cr h) * 1) + lsum cl cr := by
    rw [← lsum_add]
    exact lsum_cong (fun x => by have := h x; omega) cl
  rw [e]
  show _ + (_ * 1 + 0) ≤ _
  cases go with
  | true => rw [if_pos rfl]; omega
  | false => rw [if_neg (by decide)]; omega
theorem stL_lt {cr th : Nat → Nat} {go : Bool} {cl : List (Nat × Nat)} {M : Nat} (h : ∀ x, th x ≤ M) : ∀ p ∈ stL cr th go cl, p.2 ≤ M := by
  intro p hp
  unfold stL at hp
  rcases List.mem_append.mp hp with hp | hp
  · obtain ⟨q, -, rfl⟩ := List.mem_map.mp hp
    exact h _
  · simp at hp
    rw [hp]
    exact Nat.zero_le _
/-! an agenda's run -/
noncomputable def thx (I : xI) (x : Nat × Nat) (h : Nat) : Nat := min 95 (h + fB I 0 x.1)
noncomputable def crx (I : xI) (ls : lwT) (x : Nat × Nat) (h : Nat) : Nat := cyN I ls (nI (thx I x h)) (I 13 0) (I 14 0) x.1 x.2
theorem crx_le {I : xI} {ls : lwT} {x : Nat × Nat} (h : Nat) : crx I ls x h ≤ 12 := cyN_le
theorem thx_le {I : xI} {x : Nat × Nat} (h : Nat) : thx I x h ≤ 95 := Nat.min_le_left _ _
theorem thx_fr {I I' : xI} (h : Fq I I') : thx I' = thx I := by
  funext x y
  unfold thx
  rw [fB_fr h (by omega)]
theorem crx_fr {I I' : xI} (h : Fq I I') {ls : lwT} : crx I' ls = crx I ls := by
  funext x y
  unfold crx
  rw [thx_fr h, cyN_fr h, h.1 13 (by decide) (by decide), h.1 14 (by decide) (by decide)]
theorem f_min_n {a b : Nat} (h : a + b < 2 ^ 30) : f_min 95 (nI a + nI b) = nI (min 95 (a + b)) := by
  rw [nI_add]
  unfold f_min
  by_cases q : a + b < 95
  · rw [if_pos (show nI (a + b) < 95 from nI_lt (b := 95) q (by omega)), Nat.min_eq_right (by omega)]
  · rw [if_neg (show ¬ nI (a + b) < 95 from nI_nlt (b := 95) (a := a + b) (by omega) (by omega)), Nat.min_eq_left (by omega)]
    rfl
theorem th_eq {I : xI} (hb : ivBills I) {x : Nat × Nat} (hx : x.1 < 10) {h : Nat} (hh : h ≤ 95) : f_min 95 (nI h + I 7 x.1) = nI (thx I x h) := by
  obtain ⟨e1, -, e3, -⟩ := fB_b hb hx
  rw [e1, f_min_n (by omega)]
  rfl
noncomputable def runL (I : xI) (ls : lwT) : List (Nat × Nat × Bool) → List (Nat × Nat) → List (Nat × Nat)
  | [], cl => cl
  | x :: xs, cl => runL I ls xs (stL (crx I ls (x.1, x.2.1)) (thx I (x.1, x.2.1)) x.2.2 cl)
