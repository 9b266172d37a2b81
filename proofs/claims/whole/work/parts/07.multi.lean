theorem xnf : nativeFrameWords "java/lang/System" "arraycopy" 5 ≤ 20 := by decide +kernel
def xcp {α : Type} (I : Nat → Nat → α) (k0 k1 sp dp n : Nat) : Nat → Nat → α := fun a b => if a = k1 then (if dp ≤ b ∧ b < dp + n then I k0 (sp + (b - dp)) else I k1 b) else I a b
theorem xcp_row {α : Type} {I : Nat → Nat → α} {k0 k1 sp dp n a : Nat} (h : ¬ a = k1) : xcp I k0 k1 sp dp n a = I a := funext fun b => if_neg h
theorem xcp_self {α : Type} {I : Nat → Nat → α} {k0 k1 sp dp n : Nat} : va_cpy (I k0) (I k1) sp dp n = xcp I k0 k1 sp dp n k1 := funext fun b => by simp [va_cpy, xcp]
theorem xr_rows {n N' : Nat} {X : List (Nat × Nat)} {g : xG} {k j : Nat} : xr (X, (List.range N').map (fun i => (n, i, n + 1 + i)) ++ g.2) k j = if k = n ∧ j < N' then some (n + 1 + j) else xr g k j := by
  unfold xr
  rw [List.find?_append]
  cases hf : ((List.range N').map (fun i => (n, i, n + 1 + i))).find? (fun t => t.1 == k && t.2.1 == j) with
  | some t =>
    have h1 := List.mem_of_find?_eq_some hf
    have h2 := List.find?_some hf
    obtain ⟨i, hi, rfl⟩ := List.mem_map.mp h1
    simp only [Bool.and_eq_true, beq_iff_eq] at h2
    obtain ⟨rfl, rfl⟩ := h2
    rw [if_pos ⟨rfl, List.mem_range.mp hi⟩]
    rfl
  | none =>
    have h1 := List.find?_eq_none.mp hf
    rw [if_neg]
    · rfl
    · rintro ⟨rfl, hj⟩
      exact h1 _ (List.mem_map.mpr ⟨j, List.mem_range.mpr hj, rfl⟩) (by simp)
def xzr {α : Type} (I : Nat → Nat → α) (n m : Nat) (v : α) : Nat → Nat → α := fun a b => if n ≤ a ∧ a < n + m then v else I a b
def xadm (ad : Nat → Nat) (n N' q : Nat) (r : Nat → Nat) : Nat → Nat := fun k => if k = n then q else if n < k ∧ k < n + 1 + N' then r (k - n - 1) else ad k
section XM
variable {d : Nat} {b : xB} {n0 rc rs : Nat} {sc : xSn} {M : xM} {Q : xP} {pc : Nat} {L : List (Option Value)} {st : List Value} {g : xG} {I : xI} {J : xJ}
theorem xg_copyI {k0 k1 n0 n1 idx : Nat} {sp dp n : Int32} (hd : decode M.2.1 pc = .ok (.invokestatic idx, 3)) (hlk : Cond.methodLink M.1.cls idx arraycopyName ∈ xtb) (hnat : Cond.native arraycopyName ∈ xtb) (hstat : Cond.static arraycopyName ∈ xtb) (hini : Cond.initialized "java/lang/System" ∈ xtb) (hs0 : g.1[k0]? = some (100, n0)) (hs1 : g.1[k1]? = some (100, n1)) (h1 : ¬ sp < 0) (h2 : ¬ dp < 0) (h3 : ¬ n < 0) (h4 : sp.toNatClampNeg + n.toNatClampNeg ≤ n0) (h5 : dp.toNatClampNeg + n.toNatClampNeg ≤ n1) (hr : (st.map fun v => v.category).sum ≤ 8) (hdd : 1 ≤ d)
    (k : WP d b sc M Q (pc + 3) L st g (xcp I k0 k1 sp.toNatClampNeg dp.toNatClampNeg n.toNatClampNeg) J) : WP d b sc M Q pc L (.int n :: .int dp :: .ref k1 :: .int sp :: .ref k0 :: st) g I J := by
  intro p l e R s m args below meth c D cA ad0 ad A mc ms Qw H locs cells slots ls C hR hF hX hA hO had hK hce hsl hP hD hS hl
  have hrr : ((st.map (xv ad)).map fun v => v.category).sum ≤ 8 := by rw [xv_sum]; exact hr
  have := xnf
  refine va_copyi C.1 C.2.1 (C.2.2.1.trans hl.1.symm) C.2.2.2.1 (C.2.2.2.2.1 _ hlk) (C.2.2.2.2.1 _ hnat) (C.2.2.2.2.1 _ hstat) (C.2.2.2.2.1 _ hini) hK hP hD hS k0 k1 0 0 (ty := .int) (xW_get hs0) (xW_get hs1) rfl rfl rfl h1 h2 h3 h4 h5 (fun _ _ => rfl) (Nat.le_trans hdd hR.1) (by have := hR.2.1; show _ ≤ R.locals; omega) hd (fun H1 locs1 hP1 hD1 hS1 => ?_)
  have hw : xW ad cA g (xcp I k0 k1 sp.toNatClampNeg dp.toNatClampNeg n.toNatClampNeg) J = (xW ad cA g I J).set k1 (ad k1, .inl (cA 100, n1, .inl (va_cpy (I k0) (I k1) sp.toNatClampNeg dp.toNatClampNeg n.toNatClampNeg))) := xW_set hs1 rfl (by rw [xcp_self]; rfl) (fun k' hk' => ⟨xcp_row hk', rfl, fun _ => rfl⟩)
  exact k p l e R s m args below meth c D cA ad0 ad A mc ms Qw H1 locs1 cells slots ls C hR hF hX hA hO had hK hce hsl (by rw [hw]; exact hP1) (by rw [hw]; exact hD1) hS1 hl
theorem xg_copyJ {k0 k1 n0 n1 idx : Nat} {sp dp n : Int32} (hd : decode M.2.1 pc = .ok (.invokestatic idx, 3)) (hlk : Cond.methodLink M.1.cls idx arraycopyName ∈ xtb) (hnat : Cond.native arraycopyName ∈ xtb) (hstat : Cond.static arraycopyName ∈ xtb) (hini : Cond.initialized "java/lang/System" ∈ xtb) (hs0 : g.1[k0]? = some (101, n0)) (hs1 : g.1[k1]? = some (101, n1)) (h1 : ¬ sp < 0) (h2 : ¬ dp < 0) (h3 : ¬ n < 0) (h4 : sp.toNatClampNeg + n.toNatClampNeg ≤ n0) (h5 : dp.toNatClampNeg + n.toNatClampNeg ≤ n1) (hr : (st.map fun v => v.category).sum ≤ 8) (hdd : 1 ≤ d)
    (k : WP d b sc M Q (pc + 3) L st g I (xcp J k0 k1 sp.toNatClampNeg dp.toNatClampNeg n.toNatClampNeg)) : WP d b sc M Q pc L (.int n :: .int dp :: .ref k1 :: .int sp :: .ref k0 :: st) g I J := by
  intro p l e R s m args below meth c D cA ad0 ad A mc ms Qw H locs cells slots ls C hR hF hX hA hO had hK hce hsl hP hD hS hl
  have hrr : ((st.map (xv ad)).map fun v => v.category).sum ≤ 8 := by rw [xv_sum]; exact hr
  have := xnf
  refine va_copyl C.1 C.2.1 (C.2.2.1.trans hl.1.symm) C.2.2.2.1 (C.2.2.2.2.1 _ hlk) (C.2.2.2.2.1 _ hnat) (C.2.2.2.2.1 _ hstat) (C.2.2.2.2.1 _ hini) hK hP hD hS k0 k1 1 1 (ty := .long) (xW_get hs0) (xW_get hs1) rfl rfl rfl h1 h2 h3 h4 h5 (fun _ _ => rfl) (Nat.le_trans hdd hR.1) (by have := hR.2.1; show _ ≤ R.locals; omega) hd (fun H1 locs1 hP1 hD1 hS1 => ?_)
  have hw : xW ad cA g I (xcp J k0 k1 sp.toNatClampNeg dp.toNatClampNeg n.toNatClampNeg) = (xW ad cA g I J).set k1 (ad k1, .inl (cA 101, n1, .inr (.inl (va_cpy (J k0) (J k1) sp.toNatClampNeg dp.toNatClampNeg n.toNatClampNeg)))) := xW_set hs1 rfl (by rw [xcp_self]; rfl) (fun k' hk' => ⟨rfl, xcp_row hk', fun _ => rfl⟩)
  exact k p l e R s m args below meth c D cA ad0 ad A mc ms Qw H1 locs1 cells slots ls C hR hF hX hA hO had hK hce hsl (by rw [hw]; exact hP1) (by rw [hw]; exact hD1) hS1 hl
theorem xg_mna {index : Nat} {n k : Int32} {N' K' : Nat} (hd : decode M.2.1 pc = .ok (.multianewarray index 2, 4)) (hcl : Cond.classLink M.1.cls index ("[" ++ (FieldType.array .int).toString) ∈ xtb) (harr : Cond.arrayClass .int ∈ xtb) (hn : ¬ n < 0) (hk : ¬ k < 0) (hN : n.toNatClampNeg = N') (hM : k.toNatClampNeg = K') (hb1 : N' * 4 ≤ 536870912) (hb2 : K' * componentBytes .int ≤ 536870912) (hb3 : K' ≤ 536870912) (hv : xval g.1.length g = true) (hn0 : n0 ≤ g.1.length) (hlt : g.1.length + 1 + N' < 1000000) (hL : L.all (xlo g.1.length) = true) (hst : st.all (xvo g.1.length) = true)
    (kk : WP d (n0, rc, rs) sc M Q (pc + 4) L (.ref g.1.length :: st) (g.1 ++ (105, N') :: List.replicate N' (100, K'), (List.range N').map (fun i => (g.1.length, i, g.1.length + 1 + i)) ++ g.2) (xzr I g.1.length (1 + N') 0) (xzr J g.1.length (1 + N') 0)) : WP d (n0, rc + (1 + N'), rs + (N' + N' * K')) sc M Q pc L (.int k :: .int n :: st) g I J := by
  intro p l e R s m args below meth c D cA ad0 ad A mc ms Qw H locs cells slots ls C hR hF hX hA hO had hK hce hsl hP hD hS hl
  have hce' : cells + (rc + (1 + N')) ≤ mc := hce
  have hsl' : slots + (rs + (N' + N' * K')) ≤ ms := hsl
  have h0 := (hK.2 0 (cA 100, .int) rfl).2
  refine va_mna (X := xW ad cA g I J) (L := []) (f := fun _ => .inr (0, [])) (ty := .int) (cy := cA 100) (N' := N') (K' := K') (z := (K', .inl (fun _ => 0))) C.1 C.2.1 C.2.2.2.1 (C.2.2.2.2.1 _ hcl) hO.1.2.2.2.2.2 (C.2.2.2.2.1 _ harr) h0 hK (by simpa [va_pl] using hP) (by simpa [va_pl] using hD) hS hA hn hk hN hM hb1 hb2 hb3 rfl rfl (by have := hR.2.2.1; show cells + (1 + N') ≤ R.cells; omega) (by have := hR.2.2.2; show slots + (N' + N' * K') ≤ R.slots; omega) (fun c => (arrV_new c K' _).trans rfl) hd (fun q r c1 H1 hinj _ hK1 hP1 hD1 hS1 => ?_)
  have hc1 : c1 = cA 105 := xK_same (i := 4) rfl hK1
  subst hc1
  have he : ∀ i, i < g.1.length ∨ 1000000 ≤ i → xadm ad g.1.length N' q r i = ad i := fun i hi => by
    unfold xadm
    rw [if_neg (by omega), if_neg (by omega)]
  have hw : xW (xadm ad g.1.length N' q r) cA (g.1 ++ (105, N') :: List.replicate N' (100, K'), (List.range N').map (fun i => (g.1.length, i, g.1.length + 1 + i)) ++ g.2) (xzr I g.1.length (1 + N') 0) (xzr J g.1.length (1 + N') 0) = (xW ad cA g I J ++ [(q, .inl (cA 105, N', .inr (.inr (.inr (.inr (fun i => if i < N' then some (r i) else none))))))]) ++ va_pl ([] ++ (List.range N').map r) (vr_up (fun _ => .inr (0, [])) ((List.range N').map r) (.inl (cA 100, (K', .inl (fun _ => 0))))) := by
    apply List.ext_getElem?
    intro i
    by_cases hi : i < g.1.length
    · rw [List.append_assoc, List.getElem?_append_left (by rw [xW_len]; exact hi), xW_at hi, xW_at (by simp only [List.length_append]; omega), he i (Or.inl hi)]
      have e1 : (g.1 ++ (105, N') :: List.replicate N' (100, K')).getD i (0, 0) = g.1.getD i (0, 0) := by simp [List.getD, List.getElem?_append_left hi]
      dsimp only
      rw [e1]
      have e2 : ∀ j, (xr (g.1 ++ (105, N') :: List.replicate N' (100, K'), (List.range N').map (fun i => (g.1.length, i, g.1.length + 1 + i)) ++ g.2) i j).map (xadm ad g.1.length N' q r) = (xr g i j).map ad := fun j => by
        rw [xr_rows, if_neg (by omega)]
        cases hx : xr g i j with
        | none => rfl
        | some t =>
          show some _ = some _
          rw [he t (Or.inl (xval_r hv hx).2)]
      have b1 : xzr I g.1.length (1 + N') 0 i = I i := funext fun j => if_neg (by omega)
      have b2 : xzr J g.1.length (1 + N') 0 i = J i := funext fun j => if_neg (by omega)
      have e3 : ∀ ci, xfv (xadm ad g.1.length N' q r) (g.1 ++ (105, N') :: List.replicate N' (100, K'), (List.range N').map (fun i => (g.1.length, i, g.1.length + 1 + i)) ++ g.2) (xzr I g.1.length (1 + N') 0) (xzr J g.1.length (1 + N') 0) ci i = xfv ad g I J ci i := fun ci => funext fun j => by simp only [xfv, b1, b2, e2]
      simp only [xcell, e3, b1, b2, e2]
    · by_cases hi2 : i = g.1.length
      · subst hi2
        rw [xW_get (q := (105, N')) (by simp), xcell_A, List.append_assoc, List.getElem?_append_right (by rw [xW_len]; exact Nat.le_refl _), xW_len, Nat.sub_self]
        refine congrArg some (Prod.ext (if_pos rfl) (congrArg (fun z => Sum.inl (cA 105, N', Sum.inr (Sum.inr (Sum.inr (Sum.inr z))))) (funext fun j => ?_)))
        rw [xr_rows]
        by_cases hj : j < N'
        · rw [if_pos ⟨rfl, hj⟩, if_pos hj]
          show some (xadm ad g.1.length N' q r (g.1.length + 1 + j)) = _
          unfold xadm
          rw [if_neg (by omega), if_pos (by omega), show g.1.length + 1 + j - g.1.length - 1 = j by omega]
        · rw [if_neg (by omega), if_neg hj, xr_new hv (Nat.le_refl _)]
          rfl
      · obtain ⟨j, rfl⟩ : ∃ j, i = g.1.length + 1 + j := ⟨i - g.1.length - 1, by omega⟩
        rw [List.getElem?_append_right (by simp only [List.length_append, xW_len, List.length_cons, List.length_nil]; omega)]
        have e5 : g.1.length + 1 + j - (xW ad cA g I J ++ [(q, (Sum.inl (cA 105, N', .inr (.inr (.inr (.inr (fun i => if i < N' then some (r i) else none))))) : va_E))]).length = j := by simp only [List.length_append, xW_len, List.length_cons, List.length_nil]; omega
        rw [e5]
        by_cases hj : j < N'
        · rw [xW_get (q := (100, K')) (by
            show (g.1 ++ (105, N') :: List.replicate N' (100, K'))[g.1.length + 1 + j]? = _
            rw [List.getElem?_append_right (by omega), show g.1.length + 1 + j - g.1.length = j + 1 by omega, List.getElem?_cons_succ]
            simp [hj]), xcell_I]
          have h6 : (va_pl ([] ++ (List.range N').map r) (vr_up (fun _ => .inr (0, [])) ((List.range N').map r) (.inl (cA 100, (K', .inl (fun _ => 0))))))[j]? = some (r j, .inl (cA 100, (K', .inl (fun _ => 0)))) := by
            unfold va_pl
            rw [List.nil_append, List.map_map, List.getElem?_map, List.getElem?_range hj]
            show some (r j, vr_up _ _ _ (r j)) = _
            rw [vr_up_in (List.mem_map.mpr ⟨j, List.mem_range.mpr hj, rfl⟩)]
          rw [h6]
          refine congrArg some (Prod.ext ?_ (congrArg (fun z => Sum.inl (cA 100, K', Sum.inl z)) (funext fun t => if_pos (by omega))))
          show xadm ad g.1.length N' q r (g.1.length + 1 + j) = _
          unfold xadm
          rw [if_neg (by omega), if_pos (by omega), show g.1.length + 1 + j - g.1.length - 1 = j by omega]
        · rw [List.getElem?_eq_none (by rw [xW_len]; simp only [List.length_append, List.length_cons, List.length_replicate]; omega), List.getElem?_eq_none (by unfold va_pl; simp only [List.nil_append, List.length_map, List.length_range]; omega)]
  have hst2 := xst_ad hst he
  rw [← hst2]
  have hq : xadm ad g.1.length N' q r g.1.length = q := if_pos rfl
  have hpush : (Value.ref q :: st.map (xv (xadm ad g.1.length N' q r))) = (Value.ref g.1.length :: st).map (xv (xadm ad g.1.length N' q r)) := by simp [xv, hq]
  rw [hpush]
  exact kk p l e R s m args below meth c D cA ad0 (xadm ad g.1.length N' q r) A mc ms Qw H1 locs (cells + 1 + N') (slots + N' + N' * K') ls C hR hF (hX.adEq (fun k hk => he k (Or.inr hk))) hA (hO.adEq (fun k hk => he k (Or.inr hk))) (fun k => by
    by_cases hk : k < g.1.length ∨ g.1.length + 1 + N' ≤ k
    · have : xadm ad g.1.length N' q r k = ad k := by
        unfold xadm
        rw [if_neg (by omega), if_neg (by omega)]
      rw [this]; exact had k
    · exact Or.inr ⟨by show n0 ≤ k; omega, by omega⟩) hK (by show cells + 1 + N' + rc ≤ mc; omega) (by show slots + N' + N' * K' + rs ≤ ms; omega) (by rw [hw]; exact hP1) (by rw [hw]; exact hD1) hS1 (xlv_ad hl hL he)
end XM
