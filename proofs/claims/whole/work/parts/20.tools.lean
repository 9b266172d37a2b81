/-! ===== tools: contracts of answers and states told, ranges ===== -/
theorem specF_of {d : Nat} {M : xM} {av : List Value} {g : xG} {I I' : xI} {J J' : xJ} {r : Option Value} {L : List (Option Value)} (hy : plainName M.1.cls = true) (hn : (xen av).length ≤ M.2.2.1) (hL : L = xen av ++ List.replicate (M.2.2.1 - (xen av).length) none) (h : WP d (1000000, 0, 0) none M (fun r2 g2 I2 J2 => r2 = r ∧ g2 = g ∧ I2 = I' ∧ J2 = J') 0 L [] g I J) : SpecF d M av g I J r I' J' := spec_of hy hn hL h
theorem vin {x : Int32} {n : Nat} (N : Int32) (hN : N.toInt = (n : Int)) (h0 : ¬ x < 0) (h1 : x < N) : vp_in x n := by
  rw [vp_in_iff]
  simp only [Int32.lt_iff_toInt_lt] at h0 h1
  rw [hN] at h1
  simp at h0
  omega
theorem SpecF.wide {d d' : Nat} {M : xM} {av : List Value} {g : xG} {I I' : xI} {J J' : xJ} {r : Option Value} (h : SpecF d M av g I J r I' J') : SpecF d M av g I J r I' J' := h
