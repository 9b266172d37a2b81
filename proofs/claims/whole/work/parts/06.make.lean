def xad (ad : Nat → Nat) (n q : Nat) : Nat → Nat := fun k => if k = n then q else ad k
theorem xad_eq {ad : Nat → Nat} {n q : Nat} : xad ad n q n = q := if_pos rfl
theorem xad_ne {ad : Nat → Nat} {n q k : Nat} (h : ¬ k = n) : xad ad n q k = ad k := if_neg h
section XN
variable {d : Nat} {n0 rc rs : Nat} {sc : xSn} {M : xM} {Q : xP} {pc : Nat} {L : List (Option Value)} {st : List Value} {g : xG} {I : xI} {J : xJ}
theorem xg_new {ci N index : Nat} {Cn : String} {T : u_T} {ty : Nat → FieldType} (hd : decode M.2.1 pc = .ok (.new index, 3)) (hci : ci < 100) (hc : vwCl[ci]? = some (Cn, T, N)) (hin : ∀ w ∈ u_ws Cn T N, w ∈ xtb) (hty : ∀ k, k < N → parseFieldDescriptor (T k).2.2.1 = some (ty k)) (hcl : Cond.classLink M.1.cls index Cn ∈ xtb) (hinst : Cond.instantiable Cn N ∈ xtb) (hini : Cond.initialized Cn ∈ xtb)
    (hdef : ∀ j, j < N → defaultValue (ty j) = if xft ci j = 0 then .int 0 else if xft ci j = 1 then .long 0 else .null) (hv : xval g.1.length g = true) (hn0 : n0 ≤ g.1.length) (hlt : g.1.length < 1000000) (hL : L.all (xlo g.1.length) = true) (hst : st.all (xvo g.1.length) = true)
    (k : WP d (n0, rc, rs) sc M Q (pc + 3) L (.ref g.1.length :: st) (g.1 ++ [(ci, N)], g.2) (xz I g.1.length 0) (xz J g.1.length 0)) : WP d (n0, rc + 1, rs + N) sc M Q pc L st g I J := by
  intro p l e R s m args below meth c D cA ad0 ad A mc ms Qw H locs cells slots ls C hR hF hX hA hO had hK hce hsl hP hD hS hl
  refine va_new (D := D) (ci := ci) (C := Cn) (T := T) (N := N) (fs := (List.range N).map (xfv ad (g.1 ++ [(ci, N)], g.2) (xz I g.1.length 0) (xz J g.1.length 0) ci g.1.length)) C.1 C.2.1 C.2.2.2.2.1 hin ty hty C.2.2.2.1 (C.2.2.2.2.1 _ hcl) (C.2.2.2.2.1 _ hinst) (C.2.2.2.2.1 _ hini) hK hP hD hS hA hc ?_ (by have := hR.2.2.1; show cells + 1 ≤ R.cells; have : cells + (rc + 1) ≤ mc := hce; omega) (by have := hR.2.2.2; show slots + N ≤ R.slots; have : slots + (rs + N) ≤ ms := hsl; omega) hd (fun q H1 hP1 hD1 hS1 => ?_)
  · intro j hj
    rw [hdef j hj]
    simp only [vp_V, List.getD, xfs_get hj, Option.getD_some, xfv, xz_eq]
    rw [show xr (g.1 ++ [(ci, N)], g.2) g.1.length j = none from xr_new hv (Nat.le_refl _)]
    rfl
  · have hcell : xcell (xad ad g.1.length q) cA (g.1 ++ [(ci, N)], g.2) (xz I g.1.length 0) (xz J g.1.length 0) g.1.length (ci, N) = .inr (ci, (List.range N).map (xfv ad (g.1 ++ [(ci, N)], g.2) (xz I g.1.length 0) (xz J g.1.length 0) ci g.1.length)) := by
      rw [xcell_obj hci]
      refine congrArg (fun z => Sum.inr (ci, List.map z (List.range N))) (funext fun j => ?_)
      simp only [xfv]
      rw [show xr (g.1 ++ [(ci, N)], g.2) g.1.length j = none from xr_new hv (Nat.le_refl _)]
      rfl
    have hw := xW_push (ad := ad) (ad' := xad ad g.1.length q) (cA := cA) (g := g) (g' := (g.1 ++ [(ci, N)], g.2)) (I := I) (I' := xz I g.1.length 0) (J := J) (J' := xz J g.1.length 0) (q := (ci, N)) hv rfl rfl hcell (fun k hk => ⟨xz_nef (Nat.ne_of_lt hk), xz_nef (Nat.ne_of_lt hk)⟩) xad_eq (fun k hk => xad_ne (Nat.ne_of_lt hk))
    have he : ∀ i, i < g.1.length ∨ 1000000 ≤ i → xad ad g.1.length q i = ad i := fun i hi => xad_ne (by omega)
    have hst2 := xst_ad hst he
    rw [← hst2]
    have hpush : (Value.ref q :: st.map (xv (xad ad g.1.length q))) = (Value.ref g.1.length :: st).map (xv (xad ad g.1.length q)) := by simp [xv, xad_eq]
    rw [hpush]
    exact k p l e R s m args below meth c D cA ad0 (xad ad g.1.length q) A mc ms Qw H1 locs (cells + 1) (slots + N) ls C hR hF (hX.adEq (fun k hk => he k (Or.inr hk))) hA (hO.adEq (fun k hk => he k (Or.inr hk))) (fun k => by
      by_cases hk : k = g.1.length
      · exact Or.inr ⟨by rw [hk]; exact hn0, by rw [hk]; exact hlt⟩
      · rw [xad_ne hk]; exact had k) hK (by show cells + 1 + rc ≤ mc; have : cells + (rc + 1) ≤ mc := hce; omega) (by show slots + N + rs ≤ ms; have : slots + (rs + N) ≤ ms := hsl; omega) (by rw [hw]; exact hP1) (by rw [hw]; exact hD1) hS1 (xlv_ad hl hL he)
/-- the class of an array of a sort is one -/
theorem xK_same {D : va_G} {cA : Nat → ClassId} {s : State} {c1 : ClassId} {ty : FieldType} {i : Nat} {c0 : ClassId} (hi : (xT cA)[i]? = some (c0, ty)) (h : va_K D vwCl (xT cA ++ [(c1, ty)]) s) : c1 = c0 := by
  have h1 := (h.2 i (c0, ty) (by rw [List.getElem?_append_left (List.getElem?_eq_some_iff.mp hi).1]; exact hi)).2
  have h2 := (h.2 (xT cA).length (c1, ty) (by rw [List.getElem?_append_right (Nat.le_refl _), Nat.sub_self]; rfl)).2
  unfold va_RA at h1 h2
  cases ty <;> first
    | exact Option.some.inj (h2.symm.trans h1)
    | (obtain ⟨_, _, _, _, _, h3⟩ := h1
       obtain ⟨_, _, _, _, _, h4⟩ := h2
       exact Option.some.inj (h4.symm.trans h3))

theorem xg_newa_int  {n : Int32} {N' : Nat} (hd : decode M.2.1 pc = .ok (.newarray .int, 2)) (harr : Cond.arrayClass .int ∈ xtb) (hn : ¬ n < 0) (hN : n.toNatClampNeg = N') (hbytes : N' * componentBytes .int ≤ 536870912) (hv : xval g.1.length g = true) (hn0 : n0 ≤ g.1.length) (hlt : g.1.length < 1000000) (hL : L.all (xlo g.1.length) = true) (hst : st.all (xvo g.1.length) = true)
    (k : WP d (n0, rc, rs) sc M Q (pc + 2) L (.ref g.1.length :: st) (g.1 ++ [(100, N')], g.2) (xz I g.1.length 0) (xz J g.1.length 0)) : WP d (n0, rc + 1, rs + N') sc M Q pc L (.int n :: st) g I J := by
  intro p l e R s m args below meth c D cA ad0 ad A mc ms Qw H locs cells slots ls C hR hF hX hA hO had hK hce hsl hP hD hS hl
  refine va_newa (atype := .int) (ty := .int) (a0 := (N', .inl (fun _ => 0))) C.1 C.2.1 (C.2.2.2.2.1 _ harr) rfl hK hP hD hS hA (fun _ => rfl) hn hN hbytes (by have := hR.2.2.1; show cells + 1 ≤ R.cells; have : cells + (rc + 1) ≤ mc := hce; omega) (by have := hR.2.2.2; show slots + N' ≤ R.slots; have : slots + (rs + N') ≤ ms := hsl; omega) hd (fun q c1 H1 hK1 hP1 hD1 hS1 => ?_)
  have hc1 : c1 = cA 100 := xK_same (i := 0) rfl hK1
  subst hc1
  have hcell : xcell (xad ad g.1.length q) cA (g.1 ++ [(100, N')], g.2) (xz I g.1.length 0) (xz J g.1.length 0) g.1.length (100, N') = .inl (cA 100, N', .inl (fun _ => 0)) := by
    show Sum.inl (_, _, _) = _
    rw [show xz I g.1.length 0 g.1.length = fun _ => 0 from funext fun _ => xz_eq]
  have hw := xW_push (ad := ad) (ad' := xad ad g.1.length q) (cA := cA) (g := g) (g' := (g.1 ++ [(100, N')], g.2)) (I := I) (I' := xz I g.1.length 0) (J := J) (J' := xz J g.1.length 0) (q := (100, N')) hv rfl rfl hcell (fun k hk => ⟨xz_nef (Nat.ne_of_lt hk), xz_nef (Nat.ne_of_lt hk)⟩) xad_eq (fun k hk => xad_ne (Nat.ne_of_lt hk))
  have he : ∀ i, i < g.1.length ∨ 1000000 ≤ i → xad ad g.1.length q i = ad i := fun i hi => xad_ne (by omega)
  have hst2 := xst_ad hst he
  rw [← hst2]
  have hpush : (Value.ref q :: st.map (xv (xad ad g.1.length q))) = (Value.ref g.1.length :: st).map (xv (xad ad g.1.length q)) := by simp [xv, xad_eq]
  rw [hpush]
  exact k p l e R s m args below meth c D cA ad0 (xad ad g.1.length q) A mc ms Qw H1 locs (cells + 1) (slots + N') ls C hR hF (hX.adEq (fun k hk => he k (Or.inr hk))) hA (hO.adEq (fun k hk => he k (Or.inr hk))) (fun k => by
    by_cases hk : k = g.1.length
    · exact Or.inr ⟨by rw [hk]; exact hn0, by rw [hk]; exact hlt⟩
    · rw [xad_ne hk]; exact had k) hK (by show cells + 1 + rc ≤ mc; have : cells + (rc + 1) ≤ mc := hce; omega) (by show slots + N' + rs ≤ ms; have : slots + (rs + N') ≤ ms := hsl; omega) (by rw [hw]; exact hP1) (by rw [hw]; exact hD1) hS1 (xlv_ad hl hL he)
theorem xg_newa_long  {n : Int32} {N' : Nat} (hd : decode M.2.1 pc = .ok (.newarray .long, 2)) (harr : Cond.arrayClass .long ∈ xtb) (hn : ¬ n < 0) (hN : n.toNatClampNeg = N') (hbytes : N' * componentBytes .long ≤ 536870912) (hv : xval g.1.length g = true) (hn0 : n0 ≤ g.1.length) (hlt : g.1.length < 1000000) (hL : L.all (xlo g.1.length) = true) (hst : st.all (xvo g.1.length) = true)
    (k : WP d (n0, rc, rs) sc M Q (pc + 2) L (.ref g.1.length :: st) (g.1 ++ [(101, N')], g.2) (xz I g.1.length 0) (xz J g.1.length 0)) : WP d (n0, rc + 1, rs + N') sc M Q pc L (.int n :: st) g I J := by
  intro p l e R s m args below meth c D cA ad0 ad A mc ms Qw H locs cells slots ls C hR hF hX hA hO had hK hce hsl hP hD hS hl
  refine va_newa (atype := .long) (ty := .long) (a0 := (N', .inr (.inl (fun _ => 0)))) C.1 C.2.1 (C.2.2.2.2.1 _ harr) rfl hK hP hD hS hA (fun _ => rfl) hn hN hbytes (by have := hR.2.2.1; show cells + 1 ≤ R.cells; have : cells + (rc + 1) ≤ mc := hce; omega) (by have := hR.2.2.2; show slots + N' ≤ R.slots; have : slots + (rs + N') ≤ ms := hsl; omega) hd (fun q c1 H1 hK1 hP1 hD1 hS1 => ?_)
  have hc1 : c1 = cA 101 := xK_same (i := 1) rfl hK1
  subst hc1
  have hcell : xcell (xad ad g.1.length q) cA (g.1 ++ [(101, N')], g.2) (xz I g.1.length 0) (xz J g.1.length 0) g.1.length (101, N') = .inl (cA 101, N', .inr (.inl (fun _ => 0))) := by
    show Sum.inl (_, _, _) = _
    rw [show xz J g.1.length 0 g.1.length = fun _ => 0 from funext fun _ => xz_eq]
  have hw := xW_push (ad := ad) (ad' := xad ad g.1.length q) (cA := cA) (g := g) (g' := (g.1 ++ [(101, N')], g.2)) (I := I) (I' := xz I g.1.length 0) (J := J) (J' := xz J g.1.length 0) (q := (101, N')) hv rfl rfl hcell (fun k hk => ⟨xz_nef (Nat.ne_of_lt hk), xz_nef (Nat.ne_of_lt hk)⟩) xad_eq (fun k hk => xad_ne (Nat.ne_of_lt hk))
  have he : ∀ i, i < g.1.length ∨ 1000000 ≤ i → xad ad g.1.length q i = ad i := fun i hi => xad_ne (by omega)
  have hst2 := xst_ad hst he
  rw [← hst2]
  have hpush : (Value.ref q :: st.map (xv (xad ad g.1.length q))) = (Value.ref g.1.length :: st).map (xv (xad ad g.1.length q)) := by simp [xv, xad_eq]
  rw [hpush]
  exact k p l e R s m args below meth c D cA ad0 (xad ad g.1.length q) A mc ms Qw H1 locs (cells + 1) (slots + N') ls C hR hF (hX.adEq (fun k hk => he k (Or.inr hk))) hA (hO.adEq (fun k hk => he k (Or.inr hk))) (fun k => by
    by_cases hk : k = g.1.length
    · exact Or.inr ⟨by rw [hk]; exact hn0, by rw [hk]; exact hlt⟩
    · rw [xad_ne hk]; exact had k) hK (by show cells + 1 + rc ≤ mc; have : cells + (rc + 1) ≤ mc := hce; omega) (by show slots + N' + rs ≤ ms; have : slots + (rs + N') ≤ ms := hsl; omega) (by rw [hw]; exact hP1) (by rw [hw]; exact hD1) hS1 (xlv_ad hl hL he)
theorem xg_newa_byte  {n : Int32} {N' : Nat} (hd : decode M.2.1 pc = .ok (.newarray .byte, 2)) (harr : Cond.arrayClass .byte ∈ xtb) (hn : ¬ n < 0) (hN : n.toNatClampNeg = N') (hbytes : N' * componentBytes .byte ≤ 536870912) (hv : xval g.1.length g = true) (hn0 : n0 ≤ g.1.length) (hlt : g.1.length < 1000000) (hL : L.all (xlo g.1.length) = true) (hst : st.all (xvo g.1.length) = true)
    (k : WP d (n0, rc, rs) sc M Q (pc + 2) L (.ref g.1.length :: st) (g.1 ++ [(102, N')], g.2) (xz I g.1.length 0) (xz J g.1.length 0)) : WP d (n0, rc + 1, rs + N') sc M Q pc L (.int n :: st) g I J := by
  intro p l e R s m args below meth c D cA ad0 ad A mc ms Qw H locs cells slots ls C hR hF hX hA hO had hK hce hsl hP hD hS hl
  refine va_newa (atype := .byte) (ty := .byte) (a0 := (N', .inl (fun _ => 0))) C.1 C.2.1 (C.2.2.2.2.1 _ harr) rfl hK hP hD hS hA (fun _ => rfl) hn hN hbytes (by have := hR.2.2.1; show cells + 1 ≤ R.cells; have : cells + (rc + 1) ≤ mc := hce; omega) (by have := hR.2.2.2; show slots + N' ≤ R.slots; have : slots + (rs + N') ≤ ms := hsl; omega) hd (fun q c1 H1 hK1 hP1 hD1 hS1 => ?_)
  have hc1 : c1 = cA 102 := xK_same (i := 2) rfl hK1
  subst hc1
  have hcell : xcell (xad ad g.1.length q) cA (g.1 ++ [(102, N')], g.2) (xz I g.1.length 0) (xz J g.1.length 0) g.1.length (102, N') = .inl (cA 102, N', .inl (fun _ => 0)) := by
    show Sum.inl (_, _, _) = _
    rw [show xz I g.1.length 0 g.1.length = fun _ => 0 from funext fun _ => xz_eq]
  have hw := xW_push (ad := ad) (ad' := xad ad g.1.length q) (cA := cA) (g := g) (g' := (g.1 ++ [(102, N')], g.2)) (I := I) (I' := xz I g.1.length 0) (J := J) (J' := xz J g.1.length 0) (q := (102, N')) hv rfl rfl hcell (fun k hk => ⟨xz_nef (Nat.ne_of_lt hk), xz_nef (Nat.ne_of_lt hk)⟩) xad_eq (fun k hk => xad_ne (Nat.ne_of_lt hk))
  have he : ∀ i, i < g.1.length ∨ 1000000 ≤ i → xad ad g.1.length q i = ad i := fun i hi => xad_ne (by omega)
  have hst2 := xst_ad hst he
  rw [← hst2]
  have hpush : (Value.ref q :: st.map (xv (xad ad g.1.length q))) = (Value.ref g.1.length :: st).map (xv (xad ad g.1.length q)) := by simp [xv, xad_eq]
  rw [hpush]
  exact k p l e R s m args below meth c D cA ad0 (xad ad g.1.length q) A mc ms Qw H1 locs (cells + 1) (slots + N') ls C hR hF (hX.adEq (fun k hk => he k (Or.inr hk))) hA (hO.adEq (fun k hk => he k (Or.inr hk))) (fun k => by
    by_cases hk : k = g.1.length
    · exact Or.inr ⟨by rw [hk]; exact hn0, by rw [hk]; exact hlt⟩
    · rw [xad_ne hk]; exact had k) hK (by show cells + 1 + rc ≤ mc; have : cells + (rc + 1) ≤ mc := hce; omega) (by show slots + N' + rs ≤ ms; have : slots + (rs + N') ≤ ms := hsl; omega) (by rw [hw]; exact hP1) (by rw [hw]; exact hD1) hS1 (xlv_ad hl hL he)
theorem xg_newa_short  {n : Int32} {N' : Nat} (hd : decode M.2.1 pc = .ok (.newarray .short, 2)) (harr : Cond.arrayClass .short ∈ xtb) (hn : ¬ n < 0) (hN : n.toNatClampNeg = N') (hbytes : N' * componentBytes .short ≤ 536870912) (hv : xval g.1.length g = true) (hn0 : n0 ≤ g.1.length) (hlt : g.1.length < 1000000) (hL : L.all (xlo g.1.length) = true) (hst : st.all (xvo g.1.length) = true)
    (k : WP d (n0, rc, rs) sc M Q (pc + 2) L (.ref g.1.length :: st) (g.1 ++ [(103, N')], g.2) (xz I g.1.length 0) (xz J g.1.length 0)) : WP d (n0, rc + 1, rs + N') sc M Q pc L (.int n :: st) g I J := by
  intro p l e R s m args below meth c D cA ad0 ad A mc ms Qw H locs cells slots ls C hR hF hX hA hO had hK hce hsl hP hD hS hl
  refine va_newa (atype := .short) (ty := .short) (a0 := (N', .inl (fun _ => 0))) C.1 C.2.1 (C.2.2.2.2.1 _ harr) rfl hK hP hD hS hA (fun _ => rfl) hn hN hbytes (by have := hR.2.2.1; show cells + 1 ≤ R.cells; have : cells + (rc + 1) ≤ mc := hce; omega) (by have := hR.2.2.2; show slots + N' ≤ R.slots; have : slots + (rs + N') ≤ ms := hsl; omega) hd (fun q c1 H1 hK1 hP1 hD1 hS1 => ?_)
  have hc1 : c1 = cA 103 := xK_same (i := 3) rfl hK1
  subst hc1
  have hcell : xcell (xad ad g.1.length q) cA (g.1 ++ [(103, N')], g.2) (xz I g.1.length 0) (xz J g.1.length 0) g.1.length (103, N') = .inl (cA 103, N', .inl (fun _ => 0)) := by
    show Sum.inl (_, _, _) = _
    rw [show xz I g.1.length 0 g.1.length = fun _ => 0 from funext fun _ => xz_eq]
  have hw := xW_push (ad := ad) (ad' := xad ad g.1.length q) (cA := cA) (g := g) (g' := (g.1 ++ [(103, N')], g.2)) (I := I) (I' := xz I g.1.length 0) (J := J) (J' := xz J g.1.length 0) (q := (103, N')) hv rfl rfl hcell (fun k hk => ⟨xz_nef (Nat.ne_of_lt hk), xz_nef (Nat.ne_of_lt hk)⟩) xad_eq (fun k hk => xad_ne (Nat.ne_of_lt hk))
  have he : ∀ i, i < g.1.length ∨ 1000000 ≤ i → xad ad g.1.length q i = ad i := fun i hi => xad_ne (by omega)
  have hst2 := xst_ad hst he
  rw [← hst2]
  have hpush : (Value.ref q :: st.map (xv (xad ad g.1.length q))) = (Value.ref g.1.length :: st).map (xv (xad ad g.1.length q)) := by simp [xv, xad_eq]
  rw [hpush]
  exact k p l e R s m args below meth c D cA ad0 (xad ad g.1.length q) A mc ms Qw H1 locs (cells + 1) (slots + N') ls C hR hF (hX.adEq (fun k hk => he k (Or.inr hk))) hA (hO.adEq (fun k hk => he k (Or.inr hk))) (fun k => by
    by_cases hk : k = g.1.length
    · exact Or.inr ⟨by rw [hk]; exact hn0, by rw [hk]; exact hlt⟩
    · rw [xad_ne hk]; exact had k) hK (by show cells + 1 + rc ≤ mc; have : cells + (rc + 1) ≤ mc := hce; omega) (by show slots + N' + rs ≤ ms; have : slots + (rs + N') ≤ ms := hsl; omega) (by rw [hw]; exact hP1) (by rw [hw]; exact hD1) hS1 (xlv_ad hl hL he)
theorem xg_anew {index : Nat} {n : Int32} {N' : Nat} (hd : decode M.2.1 pc = .ok (.anewarray index, 3)) (hcl : Cond.classLink M.1.cls index RX9 ∈ xtb)  (hn : ¬ n < 0) (hN : n.toNatClampNeg = N') (hbytes : N' * 4 ≤ 536870912) (hv : xval g.1.length g = true) (hn0 : n0 ≤ g.1.length) (hlt : g.1.length < 1000000) (hL : L.all (xlo g.1.length) = true) (hst : st.all (xvo g.1.length) = true)
    (k : WP d (n0, rc, rs) sc M Q (pc + 3) L (.ref g.1.length :: st) (g.1 ++ [(106, N')], g.2) (xz I g.1.length 0) (xz J g.1.length 0)) : WP d (n0, rc + 1, rs + N') sc M Q pc L (.int n :: st) g I J := by
  intro p l e R s m args below meth c D cA ad0 ad A mc ms Qw H locs cells slots ls C hR hF hX hA hO had hK hce hsl hP hD hS hl
  refine va_newq (C := RX9) C.1 C.2.1 C.2.2.2.1 (C.2.2.2.2.1 _ hcl) hO.1.2.2.2.2.1 hK hP hD hS hA hn hN hbytes (by have := hR.2.2.1; show cells + 1 ≤ R.cells; have : cells + (rc + 1) ≤ mc := hce; omega) (by have := hR.2.2.2; show slots + N' ≤ R.slots; have : slots + (rs + N') ≤ ms := hsl; omega) hd (fun q c1 H1 hK1 hP1 hD1 hS1 => ?_)
  have hc1 : c1 = cA 106 := xK_same (i := 5) rfl hK1
  subst hc1
  have hcell : xcell (xad ad g.1.length q) cA (g.1 ++ [(106, N')], g.2) (xz I g.1.length 0) (xz J g.1.length 0) g.1.length (106, N') = .inl (cA 106, N', .inr (.inr (.inr (.inr (fun _ => none))))) := by
    show Sum.inl (cA 106, N', Sum.inr (Sum.inr (Sum.inr (Sum.inr (fun j => (xr (g.1 ++ [(106, N')], g.2) g.1.length j).map (xad ad g.1.length q)))))) = _
    rw [show (fun j => (xr (g.1 ++ [(106, N')], g.2) g.1.length j).map (xad ad g.1.length q)) = fun _ => none from funext fun j => by rw [show xr (g.1 ++ [(106, N')], g.2) g.1.length j = none from xr_new hv (Nat.le_refl _)]; rfl]
  have hw := xW_push (ad := ad) (ad' := xad ad g.1.length q) (cA := cA) (g := g) (g' := (g.1 ++ [(106, N')], g.2)) (I := I) (I' := xz I g.1.length 0) (J := J) (J' := xz J g.1.length 0) (q := (106, N')) hv rfl rfl hcell (fun k hk => ⟨xz_nef (Nat.ne_of_lt hk), xz_nef (Nat.ne_of_lt hk)⟩) xad_eq (fun k hk => xad_ne (Nat.ne_of_lt hk))
  have he : ∀ i, i < g.1.length ∨ 1000000 ≤ i → xad ad g.1.length q i = ad i := fun i hi => xad_ne (by omega)
  have hst2 := xst_ad hst he
  rw [← hst2]
  have hpush : (Value.ref q :: st.map (xv (xad ad g.1.length q))) = (Value.ref g.1.length :: st).map (xv (xad ad g.1.length q)) := by simp [xv, xad_eq]
  rw [hpush]
  exact k p l e R s m args below meth c D cA ad0 (xad ad g.1.length q) A mc ms Qw H1 locs (cells + 1) (slots + N') ls C hR hF (hX.adEq (fun k hk => he k (Or.inr hk))) hA (hO.adEq (fun k hk => he k (Or.inr hk))) (fun k => by
    by_cases hk : k = g.1.length
    · exact Or.inr ⟨by rw [hk]; exact hn0, by rw [hk]; exact hlt⟩
    · rw [xad_ne hk]; exact had k) hK (by show cells + 1 + rc ≤ mc; have : cells + (rc + 1) ≤ mc := hce; omega) (by show slots + N' + rs ≤ ms; have : slots + (rs + N') ≤ ms := hsl; omega) (by rw [hw]; exact hP1) (by rw [hw]; exact hD1) hS1 (xlv_ad hl hL he)
end XN
