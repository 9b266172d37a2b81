/-! ===== tools: contracts of answers and states told, ranges ===== -/
theorem specF_of {d : Nat} {M : xM} {av : List Value} {g : xG} {I I' : xI} {J J' : xJ} {r : Option Value} {L : List (Option Value)} (hy : plainName M.1.cls = true) (hn : (xen av).length ≤ M.2.2.1) (hL : L = xen av ++ List.replicate (M.2.2.1 - (xen av).length) none) (h : WP d (1000000, 0, 0) none M (fun r2 g2 I2 J2 => r2 = r ∧ g2 = g ∧ I2 = I' ∧ J2 = J') 0 L [] g I J) : SpecF d M av g I J r I' J' := spec_of hy hn hL h
theorem vin {x : Int32} {n : Nat} (N : Int32) (hN : N.toInt = (n : Int)) (h0 : ¬ x < 0) (h1 : x < N) : vp_in x n := by
  rw [vp_in_iff]
  simp only [Int32.lt_iff_toInt_lt] at h0 h1
  rw [hN] at h1
  simp at h0
  omega
theorem SpecF.wide {d d' : Nat} {M : xM} {av : List Value} {g : xG} {I I' : xI} {J J' : xJ} {r : Option Value} (h : SpecF d M av g I J r I' J') : SpecF d M av g I J r I' J' := h
def xf (J : xJ) (e N : Nat) (v : Int64) : xJ := fun a b => if a = e ∧ b < N then v else J a b
theorem xf_0 {J : xJ} {e : Nat} {v : Int64} : xf J e 0 v = J := by funext a b; simp [xf]
theorem xf_s {J : xJ} {e i : Nat} {v : Int64} : xu (xf J e i v) e i v = xf J e (i + 1) v := by
  funext a b
  simp only [xu, xf]
  grind
theorem xf_row {J : xJ} {e N a : Nat} {v : Int64} (h : ¬ a = e) : xf J e N v a = J a := by funext b; simp [xf, h]
theorem xf_in {J : xJ} {e N b : Nat} {v : Int64} (h : b < N) : xf J e N v e b = v := by simp [xf, h]
/-- the rows of the numbers, the shelves and their elements -/
theorem num_at {k : Nat} (h : k < 10) : xr xG1 6 k = some (7 + k) ∧ xG1.1[7 + k]? = some (100, 10) := by
  have : ∀ k : Nat, k < 10 → xr xG1 6 k = some (7 + k) ∧ xG1.1[7 + k]? = some (100, 10) := by decide +kernel
  exact this k h
theorem shelf_at {k : Nat} (h : k < 6) : xr xG1 44 k = some (45 + 2 * k) ∧ xG1.1[45 + 2 * k]? = some (9, 5) ∧ xr xG1 (45 + 2 * k) 0 = some (46 + 2 * k) ∧ xG1.1[46 + 2 * k]? = some (101, 60) := by
  have : ∀ k : Nat, k < 6 → xr xG1 44 k = some (45 + 2 * k) ∧ xG1.1[45 + 2 * k]? = some (9, 5) ∧ xr xG1 (45 + 2 * k) 0 = some (46 + 2 * k) ∧ xG1.1[46 + 2 * k]? = some (101, 60) := by decide +kernel
  exact this k h
theorem clamp_lt {x N : Int32} {n : Nat} (hN : N.toInt = (n : Int)) (h0 : ¬ x < 0) (h1 : x < N) : x.toNatClampNeg < n := by
  have h := vin N hN h0 h1
  exact Nat.not_le.mp fun q => h (Or.inr q)
theorem lgc_self (v : Int64) : lg_cmp v v = 0 := by simp [lg_cmp]
