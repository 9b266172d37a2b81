theorem xcell_obj {ad : Nat → Nat} {cA : Nat → ClassId} {g : xG} {I : xI} {J : xJ} {k ci N : Nat} (h : ci < 100) : xcell ad cA g I J k (ci, N) = .inr (ci, (List.range N).map (xfv ad g I J ci k)) := if_pos h
theorem xcell_I {ad : Nat → Nat} {cA : Nat → ClassId} {g : xG} {I : xI} {J : xJ} {k n : Nat} : xcell ad cA g I J k (100, n) = .inl (cA 100, n, .inl (I k)) := rfl
theorem xcell_J {ad : Nat → Nat} {cA : Nat → ClassId} {g : xG} {I : xI} {J : xJ} {k n : Nat} : xcell ad cA g I J k (101, n) = .inl (cA 101, n, .inr (.inl (J k))) := rfl
theorem xcell_B {ad : Nat → Nat} {cA : Nat → ClassId} {g : xG} {I : xI} {J : xJ} {k n : Nat} : xcell ad cA g I J k (102, n) = .inl (cA 102, n, .inl (I k)) := rfl
theorem xcell_S {ad : Nat → Nat} {cA : Nat → ClassId} {g : xG} {I : xI} {J : xJ} {k n : Nat} : xcell ad cA g I J k (103, n) = .inl (cA 103, n, .inl (I k)) := rfl
theorem xcell_A {ad : Nat → Nat} {cA : Nat → ClassId} {g : xG} {I : xI} {J : xJ} {k n : Nat} : xcell ad cA g I J k (105, n) = .inl (cA 105, n, .inr (.inr (.inr (.inr (fun j => (xr g k j).map ad))))) := rfl
theorem xcell_O {ad : Nat → Nat} {cA : Nat → ClassId} {g : xG} {I : xI} {J : xJ} {k n : Nat} : xcell ad cA g I J k (106, n) = .inl (cA 106, n, .inr (.inr (.inr (.inr (fun j => (xr g k j).map ad))))) := rfl
theorem xfs_get {f : Nat → Value} {N j : Nat} (hj : j < N) : ((List.range N).map f)[j]? = some (f j) := by
  rw [List.getElem?_map, List.getElem?_range hj]
  rfl
theorem xfs_set {f f' : Nat → Value} {N j : Nat} {v : Value} (hj : j < N) (h1 : f' j = v) (h2 : ∀ i, ¬ i = j → f' i = f i) : (List.range N).map f' = ((List.range N).map f).set j v := by
  apply List.ext_getElem?
  intro i
  by_cases hi : i = j
  · subst hi
    rw [List.getElem?_set_self (by simpa using hj), xfs_get hj, h1]
  · rw [List.getElem?_set_ne (Ne.symm hi)]
    by_cases hl : i < N
    · rw [xfs_get hl, xfs_get hl, h2 i hi]
    · rw [List.getElem?_eq_none (by simpa using hl), List.getElem?_eq_none (by simpa using hl)]
theorem xr_cons {g : xG} {k j r a b : Nat} : xr (g.1, (k, j, r) :: g.2) a b = if k = a ∧ j = b then some r else xr g a b := by
  unfold xr
  rw [List.find?_cons]
  by_cases h : k = a ∧ j = b
  · obtain ⟨rfl, rfl⟩ := h
    simp
  · rw [if_neg h]
    have : (k == a && j == b) = false := by
      simp only [Bool.and_eq_false_iff, beq_eq_false_iff_ne]
      by_cases h1 : k = a
      · exact Or.inr (fun h2 => h ⟨h1, h2⟩)
      · exact Or.inl h1
    simp [this]
theorem xr_up {ad : Nat → Nat} {g : xG} {a i r : Nat} : (fun j => (xr (g.1, (a, i, r) :: g.2) a j).map ad) = va_up (fun j => (xr g a j).map ad) i (some (ad r)) := by
  funext j
  rw [xr_cons]
  by_cases hj : i = j
  · subst hj
    simp [va_up]
  · rw [if_neg (fun q => hj q.2)]
    exact (if_neg (fun q => hj q.symm)).symm
theorem xfv_0 {ad : Nat → Nat} {g : xG} {I : xI} {J : xJ} {ci k j : Nat} (h : xft ci j = 0) : xfv ad g I J ci k j = .int (I k j) := if_pos h
theorem xfv_1 {ad : Nat → Nat} {g : xG} {I : xI} {J : xJ} {ci k j : Nat} (h : xft ci j = 1) : xfv ad g I J ci k j = .long (J k j) := by simp [xfv, h]
theorem xfv_2 {ad : Nat → Nat} {g : xG} {I : xI} {J : xJ} {ci k j : Nat} (h : xft ci j = 2) : xfv ad g I J ci k j = va_rf ((xr g k j).map ad) := by simp [xfv, h]
theorem upd_xu {I : xI} {k j : Nat} {x : Int32} : upd (I k) j x = xu I k j x k := by funext q; simp [upd, xu]
theorem updL_xu {J : xJ} {k j : Nat} {x : Int64} : vp_updL (J k) j x = xu J k j x k := by funext q; simp [vp_updL, xu]
/-- the facts of a method that every call asks -/
def xMok (M : xM) (n : Nat) : Prop := Cond.code M.1 M.2.1 M.2.2.1 M.2.2.2 ∈ xtb ∧ Cond.initialized M.1.cls ∈ xtb ∧ (M.1.cls ≠ "java/lang/invoke/MethodHandle" ∧ M.1.cls ≠ "java/lang/invoke/VarHandle" ∧ (parseMethodDescriptor M.1.desc).map (fun d => d.parameters.length) = some n) ∧ M.2.2.1 ≤ 20
theorem xRO.warm {ad : Nat → Nat} {A : Nat → Prop} {u U : State} {H : Heap} (hW : u.WarmedH U.vm) (h : xRO ad A u H) : xRO ad A U H := ⟨h.1.warm hW, fun k q hq => ⟨(h.2 k q hq).1.moved hW.alike, (h.2 k q hq).2.moved hW.alike⟩⟩
theorem xRO.same {ad : Nat → Nat} {A : Nat → Prop} {u U : State} {H : Heap} (hvm : u.vm = U.vm) (h : xRO ad A u H) : xRO ad A U H := ⟨h.1.same hvm, fun k q hq => ⟨(h.2 k q hq).1.moved (hvm ▸ Vm.Alike.refl u.vm), (h.2 k q hq).2.moved (hvm ▸ Vm.Alike.refl u.vm)⟩⟩
theorem xRO.kept {ad : Nat → Nat} {A : Nat → Prop} {U : State} {H H1 : Heap} (h : xRO ad A U H) (hq : ∀ a : Nat, a < H.size → ¬ A a → H1[a]? = H[a]?) : xRO ad A U H1 := ⟨h.1, fun k q hk => ⟨(h.2 k q hk).1.kept hq, (h.2 k q hk).2.kept hq⟩⟩
theorem xRO.narrow {ad : Nat → Nat} {A B : Nat → Prop} {U : State} {H : Heap} (h : xRO ad A U H) (hAB : ∀ q, B q → A q) : xRO ad B U H := ⟨h.1, fun k q hk => ⟨(h.2 k q hk).1.narrow hAB, (h.2 k q hk).2.narrow hAB⟩⟩
theorem xRO.adEq {ad ad' : Nat → Nat} {A : Nat → Prop} {U : State} {H : Heap} (h : xRO ad A U H) (he : ∀ k, 1000000 ≤ k → ad' k = ad k) : xRO ad' A U H := ⟨h.1, fun k q hk => by
  rw [he _ (Nat.le_add_right _ _)]
  exact h.2 k q hk⟩
theorem xv_cat (ad : Nat → Nat) (v : Value) : (xv ad v).category = v.category := by cases v <;> rfl
theorem xv_sum (ad : Nat → Nat) (st : List Value) : ((st.map (xv ad)).map fun v => v.category).sum = (st.map fun v => v.category).sum := by
  rw [List.map_map]
  congr 1
  exact List.map_congr_left (fun v _ => xv_cat ad v)
/-- a value's reference is one of the first n cells, or a table -/
def xvo (n : Nat) : Value → Bool
  | .ref a => decide (a < n) || decide (1000000 ≤ a)
  | _ => true
theorem xvo_eq {n : Nat} {ad ad' : Nat → Nat} {v : Value} (h : xvo n v = true) (he : ∀ k, k < n ∨ 1000000 ≤ k → ad' k = ad k) : xv ad' v = xv ad v := by
  cases v <;> first | rfl | skip
  rename_i a
  simp only [xvo, Bool.or_eq_true, decide_eq_true_eq] at h
  simp only [xv, he a h]
def xlo (n : Nat) (o : Option Value) : Bool := match o with
  | some v => xvo n v
  | none => true
theorem xlv_ad {ls : Array Slot} {n k : Nat} {ad ad' : Nat → Nat} {L : List (Option Value)} (h : xlv ls n ad L) (hL : L.all (xlo k) = true) (he : ∀ i, i < k ∨ 1000000 ≤ i → ad' i = ad i) : xlv ls n ad' L := by
  refine ⟨h.1, h.2.1, fun i v hi => ?_⟩
  have h1 := List.all_eq_true.mp hL _ (List.mem_of_getElem? hi)
  rw [xvo_eq (v := v) h1 he]
  exact h.2.2 i v hi
theorem xst_ad {k : Nat} {ad ad' : Nat → Nat} {st : List Value} (hL : st.all (xvo k) = true) (he : ∀ i, i < k ∨ 1000000 ≤ i → ad' i = ad i) : st.map (xv ad') = st.map (xv ad) := List.map_congr_left (fun v hv => xvo_eq (List.all_eq_true.mp hL v hv) he)
/-- all references held are among the first n cells -/
def xval (n : Nat) (g : xG) : Bool := g.2.all (fun t => decide (t.1 < n) && decide (t.2.2 < n))
theorem xval_r {n : Nat} {g : xG} (h : xval n g = true) {k j r : Nat} (hr : xr g k j = some r) : k < n ∧ r < n := by
  unfold xr at hr
  cases hf : g.2.find? (fun t => t.1 == k && t.2.1 == j) with
  | none => rw [hf] at hr; cases hr
  | some t =>
    rw [hf] at hr
    cases hr
    have h1 := List.all_eq_true.mp h t (List.mem_of_find?_eq_some hf)
    have h2 := List.find?_some hf
    simp only [Bool.and_eq_true, decide_eq_true_eq, beq_iff_eq] at h1 h2
    exact ⟨h2.1 ▸ h1.1, h1.2⟩
theorem xW_push {ad ad' : Nat → Nat} {cA : Nat → ClassId} {g g' : xG} {I I' : xI} {J J' : xJ} {q : Nat × Nat} {e : va_E} {a : Nat} (hv : xval g.1.length g = true) (h1 : g'.1 = g.1 ++ [q]) (h2 : g'.2 = g.2) (he : xcell ad' cA g' I' J' g.1.length q = e) (ho : ∀ k, k < g.1.length → I' k = I k ∧ J' k = J k) (ha : ad' g.1.length = a) (hk : ∀ k, k < g.1.length → ad' k = ad k) : xW ad' cA g' I' J' = xW ad cA g I J ++ [(a, e)] := by
  have hrr : ∀ k j, xr g' k j = xr g k j := fun k j => by unfold xr; rw [h2]
  apply List.ext_getElem?
  intro i
  by_cases hi : i < g.1.length
  · rw [List.getElem?_append_left (by rw [xW_len]; exact hi), xW_at hi, xW_at (by rw [h1, List.length_append]; omega), hk i hi]
    have e1 : g'.1.getD i (0, 0) = g.1.getD i (0, 0) := by
      rw [h1]
      simp [List.getD, List.getElem?_append_left hi]
    rw [e1]
    obtain ⟨b1, b2⟩ := ho i hi
    have e2 : ∀ j, (xr g' i j).map ad' = (xr g i j).map ad := fun j => by
      rw [hrr]
      cases hx : xr g i j with
      | none => rfl
      | some r =>
        show some _ = some _
        rw [hk r (xval_r hv hx).2]
    have e3 : ∀ ci, xfv ad' g' I' J' ci i = xfv ad g I J ci i := fun ci => funext fun j => by simp only [xfv, b1, b2, e2]
    simp only [xcell, e3, b1, b2, e2]
  · by_cases hi2 : i = g.1.length
    · subst hi2
      rw [List.getElem?_append_right (by rw [xW_len]; exact Nat.le_refl _), xW_len, Nat.sub_self, xW_get (q := q) (by rw [h1, List.getElem?_append_right (Nat.le_refl _), Nat.sub_self]; rfl), he, ha]
      rfl
    · rw [List.getElem?_eq_none (by rw [xW_len, h1, List.length_append]; show _ + 1 ≤ _; omega), List.getElem?_eq_none (by rw [List.length_append, xW_len]; show _ + 1 ≤ _; omega)]
theorem xr_new {n : Nat} {g : xG} (h : xval n g = true) {k j : Nat} (hk : n ≤ k) : xr g k j = none := by
  cases hx : xr g k j with
  | none => rfl
  | some r =>
    have := (xval_r h hx).1
    omega
section XH
variable {d : Nat} {b : xB} {sc : xSn} {M : xM} {Q : xP} {pc : Nat} {L : List (Option Value)} {st : List Value} {g : xG} {I : xI} {J : xJ}

theorem xg_getI {a ci j N index : Nat} {Cn : String} {T : u_T} (hd : decode M.2.1 pc = .ok (.getfield index, 3)) (hs : g.1[a]? = some (ci, N)) (hci : ci < 100) (hc : vwCl[ci]? = some (Cn, T, N)) (hin : ∀ w ∈ u_ws Cn T N, w ∈ xtb) (hj : j < N) (hlink : Cond.fieldLink M.1.cls index (T j).1 (T j).2.1 (T j).2.2.1 ∈ xtb) (hf : xft ci j = 0) (k : WP d b sc M Q (pc + 3) L (.int (I a j) :: st) g I J) : WP d b sc M Q pc L (.ref a :: st) g I J := by
  intro p l e R s m args below meth c D cA ad0 ad A mc ms Qw H locs cells slots ls C hR hF hX hA hO had hK hce hsl hP hD hS hl
  exact va_get (D := D) (ci := ci) (v := .int (I a j)) (C := Cn) (T := T) (N := N) C.1 C.2.1 C.2.2.2.2.1 hin C.2.2.2.1 hK hP a (by rw [xW_get hs, xcell_obj hci]) hc j hj (C.2.2.2.2.1 _ hlink) (fun _ h => h) (by rw [xfs_get hj]; exact congrArg some (xfv_0 hf)) hd (k p l e R s m args below meth c D cA ad0 ad A mc ms Qw H locs cells slots ls C hR hF hX hA hO had hK hce hsl hP hD hS hl)
theorem xg_getJ {a ci j N index : Nat} {Cn : String} {T : u_T} (hd : decode M.2.1 pc = .ok (.getfield index, 3)) (hs : g.1[a]? = some (ci, N)) (hci : ci < 100) (hc : vwCl[ci]? = some (Cn, T, N)) (hin : ∀ w ∈ u_ws Cn T N, w ∈ xtb) (hj : j < N) (hlink : Cond.fieldLink M.1.cls index (T j).1 (T j).2.1 (T j).2.2.1 ∈ xtb) (hf : xft ci j = 1) (k : WP d b sc M Q (pc + 3) L (.long (J a j) :: st) g I J) : WP d b sc M Q pc L (.ref a :: st) g I J := by
  intro p l e R s m args below meth c D cA ad0 ad A mc ms Qw H locs cells slots ls C hR hF hX hA hO had hK hce hsl hP hD hS hl
  exact va_get (D := D) (ci := ci) (v := .long (J a j)) (C := Cn) (T := T) (N := N) C.1 C.2.1 C.2.2.2.2.1 hin C.2.2.2.1 hK hP a (by rw [xW_get hs, xcell_obj hci]) hc j hj (C.2.2.2.2.1 _ hlink) (fun _ h => h) (by rw [xfs_get hj]; exact congrArg some (xfv_1 hf)) hd (k p l e R s m args below meth c D cA ad0 ad A mc ms Qw H locs cells slots ls C hR hF hX hA hO had hK hce hsl hP hD hS hl)
theorem xg_getR {a ci j N index : Nat} {Cn : String} {T : u_T} {r : Nat} (hd : decode M.2.1 pc = .ok (.getfield index, 3)) (hs : g.1[a]? = some (ci, N)) (hci : ci < 100) (hc : vwCl[ci]? = some (Cn, T, N)) (hin : ∀ w ∈ u_ws Cn T N, w ∈ xtb) (hj : j < N) (hlink : Cond.fieldLink M.1.cls index (T j).1 (T j).2.1 (T j).2.2.1 ∈ xtb) (hf : xft ci j = 2) (hr : xr g a j = some r) (k : WP d b sc M Q (pc + 3) L (.ref r :: st) g I J) : WP d b sc M Q pc L (.ref a :: st) g I J := by
  intro p l e R s m args below meth c D cA ad0 ad A mc ms Qw H locs cells slots ls C hR hF hX hA hO had hK hce hsl hP hD hS hl
  exact va_get (D := D) (ci := ci) (v := .ref (ad r)) (C := Cn) (T := T) (N := N) C.1 C.2.1 C.2.2.2.2.1 hin C.2.2.2.1 hK hP a (by rw [xW_get hs, xcell_obj hci]) hc j hj (C.2.2.2.2.1 _ hlink) (fun _ h => h) (by rw [xfs_get hj]; exact congrArg some ((xfv_2 hf).trans (by rw [hr]; rfl))) hd (k p l e R s m args below meth c D cA ad0 ad A mc ms Qw H locs cells slots ls C hR hF hX hA hO had hK hce hsl hP hD hS hl)
theorem xg_getIN {a ci j N index : Nat} {Cn : String} {T : u_T} {host : String} (hd : decode M.2.1 pc = .ok (.getfield index, 3)) (hs : g.1[a]? = some (ci, N)) (hci : ci < 100) (hc : vwCl[ci]? = some (Cn, T, N)) (hin : ∀ w ∈ u_ws Cn T N, w ∈ xtb) (hj : j < N) (hlink : Cond.fieldLinkNest M.1.cls index (T j).1 (T j).2.1 (T j).2.2.1 host ∈ xtb) (hf : xft ci j = 0) (k : WP d b sc M Q (pc + 3) L (.int (I a j) :: st) g I J) : WP d b sc M Q pc L (.ref a :: st) g I J := by
  intro p l e R s m args below meth c D cA ad0 ad A mc ms Qw H locs cells slots ls C hR hF hX hA hO had hK hce hsl hP hD hS hl
  exact va_getN (D := D) (ci := ci) (v := .int (I a j)) (C := Cn) (T := T) (N := N) C.1 C.2.1 C.2.2.2.2.1 hin C.2.2.2.1 hK hP a (by rw [xW_get hs, xcell_obj hci]) hc j hj (C.2.2.2.2.1 _ hlink) (fun _ h => h) (by rw [xfs_get hj]; exact congrArg some (xfv_0 hf)) hd (k p l e R s m args below meth c D cA ad0 ad A mc ms Qw H locs cells slots ls C hR hF hX hA hO had hK hce hsl hP hD hS hl)
theorem xg_getJN {a ci j N index : Nat} {Cn : String} {T : u_T} {host : String} (hd : decode M.2.1 pc = .ok (.getfield index, 3)) (hs : g.1[a]? = some (ci, N)) (hci : ci < 100) (hc : vwCl[ci]? = some (Cn, T, N)) (hin : ∀ w ∈ u_ws Cn T N, w ∈ xtb) (hj : j < N) (hlink : Cond.fieldLinkNest M.1.cls index (T j).1 (T j).2.1 (T j).2.2.1 host ∈ xtb) (hf : xft ci j = 1) (k : WP d b sc M Q (pc + 3) L (.long (J a j) :: st) g I J) : WP d b sc M Q pc L (.ref a :: st) g I J := by
  intro p l e R s m args below meth c D cA ad0 ad A mc ms Qw H locs cells slots ls C hR hF hX hA hO had hK hce hsl hP hD hS hl
  exact va_getN (D := D) (ci := ci) (v := .long (J a j)) (C := Cn) (T := T) (N := N) C.1 C.2.1 C.2.2.2.2.1 hin C.2.2.2.1 hK hP a (by rw [xW_get hs, xcell_obj hci]) hc j hj (C.2.2.2.2.1 _ hlink) (fun _ h => h) (by rw [xfs_get hj]; exact congrArg some (xfv_1 hf)) hd (k p l e R s m args below meth c D cA ad0 ad A mc ms Qw H locs cells slots ls C hR hF hX hA hO had hK hce hsl hP hD hS hl)
theorem xg_getRN {a ci j N index : Nat} {Cn : String} {T : u_T} {host : String} {r : Nat} (hd : decode M.2.1 pc = .ok (.getfield index, 3)) (hs : g.1[a]? = some (ci, N)) (hci : ci < 100) (hc : vwCl[ci]? = some (Cn, T, N)) (hin : ∀ w ∈ u_ws Cn T N, w ∈ xtb) (hj : j < N) (hlink : Cond.fieldLinkNest M.1.cls index (T j).1 (T j).2.1 (T j).2.2.1 host ∈ xtb) (hf : xft ci j = 2) (hr : xr g a j = some r) (k : WP d b sc M Q (pc + 3) L (.ref r :: st) g I J) : WP d b sc M Q pc L (.ref a :: st) g I J := by
  intro p l e R s m args below meth c D cA ad0 ad A mc ms Qw H locs cells slots ls C hR hF hX hA hO had hK hce hsl hP hD hS hl
  exact va_getN (D := D) (ci := ci) (v := .ref (ad r)) (C := Cn) (T := T) (N := N) C.1 C.2.1 C.2.2.2.2.1 hin C.2.2.2.1 hK hP a (by rw [xW_get hs, xcell_obj hci]) hc j hj (C.2.2.2.2.1 _ hlink) (fun _ h => h) (by rw [xfs_get hj]; exact congrArg some ((xfv_2 hf).trans (by rw [hr]; rfl))) hd (k p l e R s m args below meth c D cA ad0 ad A mc ms Qw H locs cells slots ls C hR hF hX hA hO had hK hce hsl hP hD hS hl)
theorem xg_putI {a ci j N index : Nat} {Cn : String} {T : u_T} {ty0 : Nat → FieldType} {ty : FieldType} {x : Int32} (hd : decode M.2.1 pc = .ok (.putfield index, 3)) (hs : g.1[a]? = some (ci, N)) (hci : ci < 100) (hc : vwCl[ci]? = some (Cn, T, N)) (hin : ∀ w ∈ u_ws Cn T N, w ∈ xtb) (hj : j < N) (hlink : Cond.fieldLink M.1.cls index (T j).1 (T j).2.1 (T j).2.2.1 ∈ xtb) (hf : xft ci j = 0) (hty : ∀ k, k < N → parseFieldDescriptor (T k).2.2.1 = some (ty0 k)) (hnm : ∀ a, a < N → ∀ b, b < N → a ≠ b → (T a).2.1 ≠ (T b).2.1) (hfin : (T j).2.2.2 = false) (hdt : parseFieldDescriptor (T j).2.2.1 = some ty) (hn : narrow ty (.int x) = .int x) (hfit : fits ty (.int x) = true) (k : WP d b sc M Q (pc + 3) L st g (xu I a j x) J) : WP d b sc M Q pc L (.int x :: .ref a :: st) g I J := by
  intro p l e R s m args below meth c D cA ad0 ad A mc ms Qw H locs cells slots ls C hR hF hX hA hO had hK hce hsl hP hD hS hl
  have hw : xW ad cA g (xu I a j x) J = (xW ad cA g I J).set a (ad a, .inr (ci, ((List.range N).map (xfv ad g I J ci a)).set j (.int x))) := xW_set hs rfl (by rw [xcell_obj hci]; exact congrArg (fun z => Sum.inr (ci, z)) (xfs_set hj ((xfv_0 hf).trans (by rw [xu_eq])) (fun i hi => by simp only [xfv, xu_col hi]))) (fun k' hk' => ⟨xu_rowf hk', rfl, fun _ => rfl⟩)
  refine va_put (D := D) (ci := ci) (C := Cn) (T := T) (N := N) C.1 C.2.1 C.2.2.2.2.1 hin ty0 hty hnm C.2.2.2.1 hK hP hD hS a (by rw [xW_get hs, xcell_obj hci]) hc j hj (C.2.2.2.2.1 _ hlink) (fun _ h => h) hfin hdt hn hfit (by simpa using hj) hd (fun H1 locs1 hP1 hD1 hS1 => ?_)
  have hP1 : va_P D vwCl (xW ad cA g (xu I a j x) J) H1 := by rw [hw]; exact hP1
  have hD1 : va_D A (xW ad cA g (xu I a j x) J) := by rw [hw]; exact hD1
  exact (k p l e R s m args below meth c D cA ad0 ad A mc ms Qw H1 locs1 cells slots ls C hR hF hX hA hO had hK hce hsl hP1 hD1 hS1 hl)
theorem xg_putJ {a ci j N index : Nat} {Cn : String} {T : u_T} {ty0 : Nat → FieldType} {ty : FieldType} {x : Int64} (hd : decode M.2.1 pc = .ok (.putfield index, 3)) (hs : g.1[a]? = some (ci, N)) (hci : ci < 100) (hc : vwCl[ci]? = some (Cn, T, N)) (hin : ∀ w ∈ u_ws Cn T N, w ∈ xtb) (hj : j < N) (hlink : Cond.fieldLink M.1.cls index (T j).1 (T j).2.1 (T j).2.2.1 ∈ xtb) (hf : xft ci j = 1) (hty : ∀ k, k < N → parseFieldDescriptor (T k).2.2.1 = some (ty0 k)) (hnm : ∀ a, a < N → ∀ b, b < N → a ≠ b → (T a).2.1 ≠ (T b).2.1) (hfin : (T j).2.2.2 = false) (hdt : parseFieldDescriptor (T j).2.2.1 = some ty) (hn : narrow ty (.long x) = .long x) (hfit : fits ty (.long x) = true) (k : WP d b sc M Q (pc + 3) L st g I (xu J a j x)) : WP d b sc M Q pc L (.long x :: .ref a :: st) g I J := by
  intro p l e R s m args below meth c D cA ad0 ad A mc ms Qw H locs cells slots ls C hR hF hX hA hO had hK hce hsl hP hD hS hl
  have hw : xW ad cA g I (xu J a j x) = (xW ad cA g I J).set a (ad a, .inr (ci, ((List.range N).map (xfv ad g I J ci a)).set j (.long x))) := xW_set hs rfl (by rw [xcell_obj hci]; exact congrArg (fun z => Sum.inr (ci, z)) (xfs_set hj ((xfv_1 hf).trans (by rw [xu_eq])) (fun i hi => by simp only [xfv, xu_col hi]))) (fun k' hk' => ⟨rfl, xu_rowf hk', fun _ => rfl⟩)
  refine va_put (D := D) (ci := ci) (C := Cn) (T := T) (N := N) C.1 C.2.1 C.2.2.2.2.1 hin ty0 hty hnm C.2.2.2.1 hK hP hD hS a (by rw [xW_get hs, xcell_obj hci]) hc j hj (C.2.2.2.2.1 _ hlink) (fun _ h => h) hfin hdt hn hfit (by simpa using hj) hd (fun H1 locs1 hP1 hD1 hS1 => ?_)
  have hP1 : va_P D vwCl (xW ad cA g I (xu J a j x)) H1 := by rw [hw]; exact hP1
  have hD1 : va_D A (xW ad cA g I (xu J a j x)) := by rw [hw]; exact hD1
  exact (k p l e R s m args below meth c D cA ad0 ad A mc ms Qw H1 locs1 cells slots ls C hR hF hX hA hO had hK hce hsl hP1 hD1 hS1 hl)
theorem xg_putR {a ci j N index : Nat} {Cn : String} {T : u_T} {ty0 : Nat → FieldType} {ty : FieldType} {r : Nat} (hd : decode M.2.1 pc = .ok (.putfield index, 3)) (hs : g.1[a]? = some (ci, N)) (hci : ci < 100) (hc : vwCl[ci]? = some (Cn, T, N)) (hin : ∀ w ∈ u_ws Cn T N, w ∈ xtb) (hj : j < N) (hlink : Cond.fieldLink M.1.cls index (T j).1 (T j).2.1 (T j).2.2.1 ∈ xtb) (hf : xft ci j = 2) (hty : ∀ k, k < N → parseFieldDescriptor (T k).2.2.1 = some (ty0 k)) (hnm : ∀ a, a < N → ∀ b, b < N → a ≠ b → (T a).2.1 ≠ (T b).2.1) (hfin : (T j).2.2.2 = true) (hin2 : M.1.name = "<init>") (hdecl : (T j).1 = M.1.cls) (hdt : parseFieldDescriptor (T j).2.2.1 = some ty) (hn : ∀ q, narrow ty (.ref q) = .ref q) (hfit : ∀ q, fits ty (.ref q) = true) (k : WP d b sc M Q (pc + 3) L st (g.1, (a, j, r) :: g.2) I J) : WP d b sc M Q pc L (.ref r :: .ref a :: st) g I J := by
  intro p l e R s m args below meth c D cA ad0 ad A mc ms Qw H locs cells slots ls C hR hF hX hA hO had hK hce hsl hP hD hS hl
  have hw : xW ad cA (g.1, (a, j, r) :: g.2) I J = (xW ad cA g I J).set a (ad a, .inr (ci, ((List.range N).map (xfv ad g I J ci a)).set j (.ref (ad r)))) := xW_set hs rfl (by rw [xcell_obj hci]; exact congrArg (fun z => Sum.inr (ci, z)) (xfs_set hj ((xfv_2 hf).trans (by rw [xr_cons, if_pos ⟨rfl, rfl⟩]; rfl)) (fun i hi => by have hx : xr (g.1, (a, j, r) :: g.2) a i = xr g a i := by { rw [xr_cons, if_neg (fun q => hi q.2.symm)] }; simp only [xfv, hx]))) (fun k' hk' => ⟨rfl, rfl, fun _ => by rw [xr_cons, if_neg (fun q => hk' q.1.symm)]⟩)
  refine va_putF (D := D) (ci := ci) (C := Cn) (T := T) (N := N) C.1 C.2.1 C.2.2.2.2.1 hin ty0 hty hnm C.2.2.2.1 hK hP hD hS a (by rw [xW_get hs, xcell_obj hci]) hc j hj (C.2.2.2.2.1 _ hlink) (fun _ h => h) hfin (C.2.2.2.2.2.2.2 hin2) hdecl hdt (hn _) (hfit _) (by simpa using hj) hd (fun H1 locs1 hP1 hD1 hS1 => ?_)
  have hP1 : va_P D vwCl (xW ad cA (g.1, (a, j, r) :: g.2) I J) H1 := by rw [hw]; exact hP1
  have hD1 : va_D A (xW ad cA (g.1, (a, j, r) :: g.2) I J) := by rw [hw]; exact hD1
  exact (k p l e R s m args below meth c D cA ad0 ad A mc ms Qw H1 locs1 cells slots ls C hR hF hX hA hO had hK hce hsl hP1 hD1 hS1 hl)
theorem xg_iald {a n : Nat} {i : Int32} (hd : decode M.2.1 pc = .ok (.iaload, 1)) (hs : g.1[a]? = some (100, n)) (hi : vp_in i n) (k : WP d b sc M Q (pc + 1) L (.int (I a i.toNatClampNeg) :: st) g I J) : WP d b sc M Q pc L (.int i :: .ref a :: st) g I J := by
  intro p l e R s m args below meth c D cA ad0 ad A mc ms Qw H locs cells slots ls C hR hF hX hA hO had hK hce hsl hP hD hS hl
  exact va_iald C.1 C.2.1 hK hP a 0 (xW_get hs) rfl hi hd (k p l e R s m args below meth c D cA ad0 ad A mc ms Qw H locs cells slots ls C hR hF hX hA hO had hK hce hsl hP hD hS hl)
theorem xg_bald {a n : Nat} {i : Int32} (hd : decode M.2.1 pc = .ok (.baload, 1)) (hs : g.1[a]? = some (102, n)) (hi : vp_in i n) (k : WP d b sc M Q (pc + 1) L (.int (I a i.toNatClampNeg) :: st) g I J) : WP d b sc M Q pc L (.int i :: .ref a :: st) g I J := by
  intro p l e R s m args below meth c D cA ad0 ad A mc ms Qw H locs cells slots ls C hR hF hX hA hO had hK hce hsl hP hD hS hl
  exact va_bald C.1 C.2.1 hK hP a 2 (xW_get hs) rfl hi hd (k p l e R s m args below meth c D cA ad0 ad A mc ms Qw H locs cells slots ls C hR hF hX hA hO had hK hce hsl hP hD hS hl)
theorem xg_sald {a n : Nat} {i : Int32} (hd : decode M.2.1 pc = .ok (.saload, 1)) (hs : g.1[a]? = some (103, n)) (hi : vp_in i n) (k : WP d b sc M Q (pc + 1) L (.int (I a i.toNatClampNeg) :: st) g I J) : WP d b sc M Q pc L (.int i :: .ref a :: st) g I J := by
  intro p l e R s m args below meth c D cA ad0 ad A mc ms Qw H locs cells slots ls C hR hF hX hA hO had hK hce hsl hP hD hS hl
  exact va_sald C.1 C.2.1 hK hP a 3 (xW_get hs) rfl hi hd (k p l e R s m args below meth c D cA ad0 ad A mc ms Qw H locs cells slots ls C hR hF hX hA hO had hK hce hsl hP hD hS hl)
theorem xg_lald {a n : Nat} {i : Int32} (hd : decode M.2.1 pc = .ok (.laload, 1)) (hs : g.1[a]? = some (101, n)) (hi : vp_in i n) (k : WP d b sc M Q (pc + 1) L (.long (J a i.toNatClampNeg) :: st) g I J) : WP d b sc M Q pc L (.int i :: .ref a :: st) g I J := by
  intro p l e R s m args below meth c D cA ad0 ad A mc ms Qw H locs cells slots ls C hR hF hX hA hO had hK hce hsl hP hD hS hl
  exact va_lald C.1 C.2.1 hK hP a 1 (xW_get hs) rfl hi hd (k p l e R s m args below meth c D cA ad0 ad A mc ms Qw H locs cells slots ls C hR hF hX hA hO had hK hce hsl hP hD hS hl)
theorem xg_iast {a n : Nat} {i : Int32} {x : Int32} (hd : decode M.2.1 pc = .ok (.iastore, 1)) (hs : g.1[a]? = some (100, n)) (hi : vp_in i n) (k : WP d b sc M Q (pc + 1) L st g (xu I a i.toNatClampNeg x) J) : WP d b sc M Q pc L (.int x :: .int i :: .ref a :: st) g I J := by
  intro p l e R s m args below meth c D cA ad0 ad A mc ms Qw H locs cells slots ls C hR hF hX hA hO had hK hce hsl hP hD hS hl
  refine va_iast C.1 C.2.1 hK hP hD hS a 0 (xW_get hs) rfl hi hd (fun H1 locs1 hP1 hD1 hS1 => ?_)
  have hw : xW ad cA g (xu I a i.toNatClampNeg x) J = (xW ad cA g I J).set a (ad a, .inl (cA 100, n, .inl (upd (I a) i.toNatClampNeg x))) := xW_set hs rfl (by rw [upd_xu]; rfl) (fun k' hk' => ⟨xu_rowf hk', rfl, fun _ => rfl⟩)
  have hP1 : va_P D vwCl (xW ad cA g (xu I a i.toNatClampNeg x) J) H1 := by rw [hw]; exact hP1
  have hD1 : va_D A (xW ad cA g (xu I a i.toNatClampNeg x) J) := by rw [hw]; exact hD1
  exact (k p l e R s m args below meth c D cA ad0 ad A mc ms Qw H1 locs1 cells slots ls C hR hF hX hA hO had hK hce hsl hP1 hD1 hS1 hl)
theorem xg_bast {a n : Nat} {i : Int32} {x : Int32} (hd : decode M.2.1 pc = .ok (.bastore, 1)) (hs : g.1[a]? = some (102, n)) (hi : vp_in i n) (k : WP d b sc M Q (pc + 1) L st g (xu I a i.toNatClampNeg (vp_nar .byte x)) J) : WP d b sc M Q pc L (.int x :: .int i :: .ref a :: st) g I J := by
  intro p l e R s m args below meth c D cA ad0 ad A mc ms Qw H locs cells slots ls C hR hF hX hA hO had hK hce hsl hP hD hS hl
  refine va_bast C.1 C.2.1 hK hP hD hS a 2 (xW_get hs) rfl hi hd (fun H1 locs1 hP1 hD1 hS1 => ?_)
  have hw : xW ad cA g (xu I a i.toNatClampNeg (vp_nar .byte x)) J = (xW ad cA g I J).set a (ad a, .inl (cA 102, n, .inl (upd (I a) i.toNatClampNeg (vp_nar .byte x)))) := xW_set hs rfl (by rw [upd_xu]; rfl) (fun k' hk' => ⟨xu_rowf hk', rfl, fun _ => rfl⟩)
  have hP1 : va_P D vwCl (xW ad cA g (xu I a i.toNatClampNeg (vp_nar .byte x)) J) H1 := by rw [hw]; exact hP1
  have hD1 : va_D A (xW ad cA g (xu I a i.toNatClampNeg (vp_nar .byte x)) J) := by rw [hw]; exact hD1
  exact (k p l e R s m args below meth c D cA ad0 ad A mc ms Qw H1 locs1 cells slots ls C hR hF hX hA hO had hK hce hsl hP1 hD1 hS1 hl)
theorem xg_sast {a n : Nat} {i : Int32} {x : Int32} (hd : decode M.2.1 pc = .ok (.sastore, 1)) (hs : g.1[a]? = some (103, n)) (hi : vp_in i n) (k : WP d b sc M Q (pc + 1) L st g (xu I a i.toNatClampNeg (vp_nar .short x)) J) : WP d b sc M Q pc L (.int x :: .int i :: .ref a :: st) g I J := by
  intro p l e R s m args below meth c D cA ad0 ad A mc ms Qw H locs cells slots ls C hR hF hX hA hO had hK hce hsl hP hD hS hl
  refine va_sast C.1 C.2.1 hK hP hD hS a 3 (xW_get hs) rfl hi hd (fun H1 locs1 hP1 hD1 hS1 => ?_)
  have hw : xW ad cA g (xu I a i.toNatClampNeg (vp_nar .short x)) J = (xW ad cA g I J).set a (ad a, .inl (cA 103, n, .inl (upd (I a) i.toNatClampNeg (vp_nar .short x)))) := xW_set hs rfl (by rw [upd_xu]; rfl) (fun k' hk' => ⟨xu_rowf hk', rfl, fun _ => rfl⟩)
  have hP1 : va_P D vwCl (xW ad cA g (xu I a i.toNatClampNeg (vp_nar .short x)) J) H1 := by rw [hw]; exact hP1
  have hD1 : va_D A (xW ad cA g (xu I a i.toNatClampNeg (vp_nar .short x)) J) := by rw [hw]; exact hD1
  exact (k p l e R s m args below meth c D cA ad0 ad A mc ms Qw H1 locs1 cells slots ls C hR hF hX hA hO had hK hce hsl hP1 hD1 hS1 hl)
theorem xg_last {a n : Nat} {i : Int32} {x : Int64} (hd : decode M.2.1 pc = .ok (.lastore, 1)) (hs : g.1[a]? = some (101, n)) (hi : vp_in i n) (k : WP d b sc M Q (pc + 1) L st g I (xu J a i.toNatClampNeg x)) : WP d b sc M Q pc L (.long x :: .int i :: .ref a :: st) g I J := by
  intro p l e R s m args below meth c D cA ad0 ad A mc ms Qw H locs cells slots ls C hR hF hX hA hO had hK hce hsl hP hD hS hl
  refine va_last C.1 C.2.1 hK hP hD hS a 1 (xW_get hs) rfl hi hd (fun H1 locs1 hP1 hD1 hS1 => ?_)
  have hw : xW ad cA g I (xu J a i.toNatClampNeg x) = (xW ad cA g I J).set a (ad a, .inl (cA 101, n, .inr (.inl (vp_updL (J a) i.toNatClampNeg x)))) := xW_set hs rfl (by rw [updL_xu]; rfl) (fun k' hk' => ⟨rfl, xu_rowf hk', fun _ => rfl⟩)
  have hP1 : va_P D vwCl (xW ad cA g I (xu J a i.toNatClampNeg x)) H1 := by rw [hw]; exact hP1
  have hD1 : va_D A (xW ad cA g I (xu J a i.toNatClampNeg x)) := by rw [hw]; exact hD1
  exact (k p l e R s m args below meth c D cA ad0 ad A mc ms Qw H1 locs1 cells slots ls C hR hF hX hA hO had hK hce hsl hP1 hD1 hS1 hl)
theorem xg_aaldA {a n r : Nat} {i : Int32} (hd : decode M.2.1 pc = .ok (.aaload, 1)) (hs : g.1[a]? = some (105, n)) (hi : vp_in i n) (hr : xr g a i.toNatClampNeg = some r) (k : WP d b sc M Q (pc + 1) L (.ref r :: st) g I J) : WP d b sc M Q pc L (.int i :: .ref a :: st) g I J := by
  intro p l e R s m args below meth c D cA ad0 ad A mc ms Qw H locs cells slots ls C hR hF hX hA hO had hK hce hsl hP hD hS hl
  have hlt : i.toNatClampNeg < n := Nat.not_le.mp fun q => hi (Or.inr q)
  refine W.aald (v := .ref (ad r)) (ty := .array .int) C.1 C.2.1 (hP a _ (xW_get hs)) ((hK.2 4 (cA 105, .array .int) rfl).1 n (fun j => va_rf ((xr g a j).map ad))) rfl (fun q => by cases q) (by show ¬ (i < 0 ∨ (arrV _ _ _).slots.size ≤ _); rw [arrV_size]; exact hi) (by show (arrV _ _ _).slots[_]? = _; rw [arrV_read _ _ hlt]; show some (va_rf ((xr g a i.toNatClampNeg).map ad)) = _; rw [hr]; rfl) rfl rfl hd ?_
  exact (k p l e R s m args below meth c D cA ad0 ad A mc ms Qw H locs cells slots ls C hR hF hX hA hO had hK hce hsl hP hD hS hl)
theorem xg_aaldO {a n r : Nat} {i : Int32} (hd : decode M.2.1 pc = .ok (.aaload, 1)) (hs : g.1[a]? = some (106, n)) (hi : vp_in i n) (hr : xr g a i.toNatClampNeg = some r) (k : WP d b sc M Q (pc + 1) L (.ref r :: st) g I J) : WP d b sc M Q pc L (.int i :: .ref a :: st) g I J := by
  intro p l e R s m args below meth c D cA ad0 ad A mc ms Qw H locs cells slots ls C hR hF hX hA hO had hK hce hsl hP hD hS hl
  have hlt : i.toNatClampNeg < n := Nat.not_le.mp fun q => hi (Or.inr q)
  refine W.aald (v := .ref (ad r)) (ty := .object RX9) C.1 C.2.1 (hP a _ (xW_get hs)) ((hK.2 5 (cA 106, .object RX9) rfl).1 n (fun j => va_rf ((xr g a j).map ad))) rfl (fun q => by cases q) (by show ¬ (i < 0 ∨ (arrV _ _ _).slots.size ≤ _); rw [arrV_size]; exact hi) (by show (arrV _ _ _).slots[_]? = _; rw [arrV_read _ _ hlt]; show some (va_rf ((xr g a i.toNatClampNeg).map ad)) = _; rw [hr]; rfl) rfl rfl hd ?_
  exact (k p l e R s m args below meth c D cA ad0 ad A mc ms Qw H locs cells slots ls C hR hF hX hA hO had hK hce hsl hP hD hS hl)
theorem xg_aast {a n r N : Nat} {i : Int32} (hd : decode M.2.1 pc = .ok (.aastore, 1)) (hs : g.1[a]? = some (106, n)) (hr : g.1[r]? = some (9, 5)) (hi : vp_in i n) (k : WP d b sc M Q (pc + 1) L st (g.1, (a, i.toNatClampNeg, r) :: g.2) I J) : WP d b sc M Q pc L (.ref r :: .int i :: .ref a :: st) g I J := by
  intro p l e R s m args below meth c D cA ad0 ad A mc ms Qw H locs cells slots ls C hR hF hX hA hO had hK hce hsl hP hD hS hl
  refine va_astq C.1 C.2.1 hK hP hD hS a 5 r 9 (xW_get hs) (r := (RX9, TX9, 5)) rfl ((xW_get hr).trans (by rw [xcell_obj (by decide)])) rfl hi hd (fun H1 locs1 hP1 hD1 hS1 => ?_)
  have hw : xW ad cA (g.1, (a, i.toNatClampNeg, r) :: g.2) I J = (xW ad cA g I J).set a (ad a, .inl (cA 106, n, .inr (.inr (.inr (.inr (va_up (fun j => (xr g a j).map ad) i.toNatClampNeg (some (ad r)))))))) := xW_set hs rfl (by rw [xcell_O]; exact congrArg (fun z => Sum.inl (cA 106, n, Sum.inr (Sum.inr (Sum.inr (Sum.inr z))))) xr_up) (fun k' hk' => ⟨rfl, rfl, fun _ => by rw [xr_cons, if_neg (fun q => hk' q.1.symm)]⟩)
  have hP1 : va_P D vwCl (xW ad cA (g.1, (a, i.toNatClampNeg, r) :: g.2) I J) H1 := by rw [hw]; exact hP1
  have hD1 : va_D A (xW ad cA (g.1, (a, i.toNatClampNeg, r) :: g.2) I J) := by rw [hw]; exact hD1
  exact (k p l e R s m args below meth c D cA ad0 ad A mc ms Qw H1 locs1 cells slots ls C hR hF hX hA hO had hK hce hsl hP1 hD1 hS1 hl)
theorem xg_alenI {a n : Nat} {v : Int32} (hd : decode M.2.1 pc = .ok (.arraylength, 1)) (hs : g.1[a]? = some (100, n)) (hv : Int32.ofNat n = v) (k : WP d b sc M Q (pc + 1) L (.int v :: st) g I J) : WP d b sc M Q pc L (.ref a :: st) g I J := by
  intro p l e R s m args below meth c D cA ad0 ad A mc ms Qw H locs cells slots ls C hR hF hX hA hO had hK hce hsl hP hD hS hl
  exact va_alen C.1 C.2.1 hK hP a 0 (xW_get hs) rfl hv hd (k p l e R s m args below meth c D cA ad0 ad A mc ms Qw H locs cells slots ls C hR hF hX hA hO had hK hce hsl hP hD hS hl)
theorem xg_alenJ {a n : Nat} {v : Int32} (hd : decode M.2.1 pc = .ok (.arraylength, 1)) (hs : g.1[a]? = some (101, n)) (hv : Int32.ofNat n = v) (k : WP d b sc M Q (pc + 1) L (.int v :: st) g I J) : WP d b sc M Q pc L (.ref a :: st) g I J := by
  intro p l e R s m args below meth c D cA ad0 ad A mc ms Qw H locs cells slots ls C hR hF hX hA hO had hK hce hsl hP hD hS hl
  exact va_alen C.1 C.2.1 hK hP a 1 (xW_get hs) rfl hv hd (k p l e R s m args below meth c D cA ad0 ad A mc ms Qw H locs cells slots ls C hR hF hX hA hO had hK hce hsl hP hD hS hl)
theorem xg_gets {t index : Nat} {q : String × String × List Int32} (hd : decode M.2.1 pc = .ok (.getstatic index, 3)) (hq : xST[t]? = some q) (hlink : Cond.fieldLink M.1.cls index q.1 q.2.1 "[I" ∈ xtb) (k : WP d b sc M Q (pc + 3) L (.ref (1000000 + t) :: st) g I J) : WP d b sc M Q pc L st g I J := by
  intro p l e R s m args below meth c D cA ad0 ad A mc ms Qw H locs cells slots ls C hR hF hX hA hO had hK hce hsl hP hD hS hl
  exact va_gets C.1 C.2.1 (hO.2 t q hq).1 hS C.2.2.2.1 (C.2.2.2.2.1 _ hlink) (fun _ h => h) hd (k p l e R s m args below meth c D cA ad0 ad A mc ms Qw H locs cells slots ls C hR hF hX hA hO had hK hce hsl hP hD hS hl)
theorem xg_tald {t : Nat} {i : Int32} {q : String × String × List Int32} (hd : decode M.2.1 pc = .ok (.iaload, 1)) (hq : xST[t]? = some q) (hi : vp_in i q.2.2.length) (k : WP d b sc M Q (pc + 1) L (.int (q.2.2.getD i.toNatClampNeg 0) :: st) g I J) : WP d b sc M Q pc L (.int i :: .ref (1000000 + t) :: st) g I J := by
  intro p l e R s m args below meth c D cA ad0 ad A mc ms Qw H locs cells slots ls C hR hF hX hA hO had hK hce hsl hP hD hS hl
  exact va_ti C.1 C.2.1 (hO.2 t q hq).2 hS hi rfl hd (k p l e R s m args below meth c D cA ad0 ad A mc ms Qw H locs cells slots ls C hR hF hX hA hO had hK hce hsl hP hD hS hl)
theorem xg_ldc {index : Nat} {v : Int32} (hd : decode M.2.1 pc = .ok (.ldc index, 2)) (hw : Cond.constant M.1.cls index v ∈ xtb) (k : WP d b sc M Q (pc + 2) L (.int v :: st) g I J) : WP d b sc M Q pc L st g I J := by
  intro p l e R s m args below meth c D cA ad0 ad A mc ms Qw H locs cells slots ls C hR hF hX hA hO had hK hce hsl hP hD hS hl
  exact lv_ldc C.1 C.2.1 C.2.2.2.1 (C.2.2.2.2.1 _ hw) hd (k p l e R s m args below meth c D cA ad0 ad A mc ms Qw H locs cells slots ls C hR hF hX hA hO had hK hce hsl hP hD hS hl)
theorem xg_ldcw {index : Nat} {v : Int32} (hd : decode M.2.1 pc = .ok (.ldc_w index, 3)) (hw : Cond.constant M.1.cls index v ∈ xtb) (k : WP d b sc M Q (pc + 3) L (.int v :: st) g I J) : WP d b sc M Q pc L st g I J := by
  intro p l e R s m args below meth c D cA ad0 ad A mc ms Qw H locs cells slots ls C hR hF hX hA hO had hK hce hsl hP hD hS hl
  exact lv_ldcw C.1 C.2.1 C.2.2.2.1 (C.2.2.2.2.1 _ hw) hd (k p l e R s m args below meth c D cA ad0 ad A mc ms Qw H locs cells slots ls C hR hF hX hA hO had hK hce hsl hP hD hS hl)
theorem xg_ldc2 {index : Nat} {v : Int64} (hd : decode M.2.1 pc = .ok (.ldc2_w index, 3)) (hw : Cond.constantLong M.1.cls index v ∈ xtb) (k : WP d b sc M Q (pc + 3) L (.long v :: st) g I J) : WP d b sc M Q pc L st g I J := by
  intro p l e R s m args below meth c D cA ad0 ad A mc ms Qw H locs cells slots ls C hR hF hX hA hO had hK hce hsl hP hD hS hl
  exact lv_ldc2 C.1 C.2.1 C.2.2.2.1 (C.2.2.2.2.1 _ hw) hd (k p l e R s m args below meth c D cA ad0 ad A mc ms Qw H locs cells slots ls C hR hF hX hA hO had hK hce hsl hP hD hS hl)
theorem xg_objInit {a index : Nat} (hd : decode M.2.1 pc = .ok (.invokespecial index, 3)) (hl1 : Cond.methodLink M.1.cls index Lib.objectInit ∈ xtb) (hl2 : Cond.instanceMethod Lib.objectInit ∈ xtb) (hl3 : Cond.code Lib.objectInit ⟨#[0xb1]⟩ 1 none ∈ xtb) (hdd : 1 ≤ d) (hr : (st.map fun v => v.category).sum ≤ 8) (k : WP d b sc M Q (pc + 3) L st g I J) : WP d b sc M Q pc L (.ref a :: st) g I J := by
  intro p l e R s m args below meth c D cA ad0 ad A mc ms Qw H locs cells slots ls C hR hF hX hA hO had hK hce hsl hP hD hS hl
  have hrr : 2 * (F0 m pc ls ((Value.ref a :: st).map (xv ad))).monitorRoom + ((st.map (xv ad)).map fun v => v.category).sum ≤ 8 := lv_room (by rw [xv_sum]; exact hr)
  exact W.objInit C.1 C.2.1 C.2.2.2.1 (C.2.2.2.2.1 _ hl1) (C.2.2.2.2.1 _ hl2) (C.2.2.2.2.1 _ hl3) rfl (hl.1.trans C.2.2.1.symm) rfl hd (Nat.le_trans hdd hR.1) (by have := hR.2.1; show _ + 12 ≤ R.locals; omega) (k p l e R s m args below meth c D cA ad0 ad A mc ms Qw H locs cells slots ls C hR hF hX hA hO had hK hce hsl hP hD hS hl)
theorem xg_iret {v : Int32} (hd : decode M.2.1 pc = .ok (.ireturn, 1)) (hret : M.2.2.2 = some .int) (hq : Q (some (.int v)) g I J) : WP d b sc M Q pc L [.int v] g I J := by
  intro p l e R s m args below meth c D cA ad0 ad A mc ms Qw H locs cells slots ls C hR hF hX hA hO had hK hce hsl hP hD hS hl
  exact hF (some (.int v)) g I J ad H locs cells slots ls pc hq had hP hD hS (by omega) (by omega) ⟨hd, Or.inl hret⟩
theorem xg_zret {v : Int32} (hd : decode M.2.1 pc = .ok (.ireturn, 1)) (hret : M.2.2.2 = some .boolean) (hn : narrow .boolean (.int v) = .int v) (hq : Q (some (.int v)) g I J) : WP d b sc M Q pc L [.int v] g I J := by
  intro p l e R s m args below meth c D cA ad0 ad A mc ms Qw H locs cells slots ls C hR hF hX hA hO had hK hce hsl hP hD hS hl
  exact hF (some (.int v)) g I J ad H locs cells slots ls pc hq had hP hD hS (by omega) (by omega) ⟨hd, Or.inr ⟨hret, hn⟩⟩
theorem xg_lret {v : Int64} (hd : decode M.2.1 pc = .ok (.lreturn, 1)) (hret : M.2.2.2 = some .long) (hq : Q (some (.long v)) g I J) : WP d b sc M Q pc L [.long v] g I J := by
  intro p l e R s m args below meth c D cA ad0 ad A mc ms Qw H locs cells slots ls C hR hF hX hA hO had hK hce hsl hP hD hS hl
  exact hF (some (.long v)) g I J ad H locs cells slots ls pc hq had hP hD hS (by omega) (by omega) ⟨hd, hret⟩
theorem xg_vret (hd : decode M.2.1 pc = .ok (.return_, 1)) (hret : M.2.2.2 = none) (hq : Q none g I J) : WP d b sc M Q pc L [] g I J := by
  intro p l e R s m args below meth c D cA ad0 ad A mc ms Qw H locs cells slots ls C hR hF hX hA hO had hK hce hsl hP hD hS hl
  exact hF none g I J ad H locs cells slots ls pc hq had hP hD hS (by omega) (by omega) ⟨hd, hret⟩
theorem xg_sld {Ls : Nat} {xs : Nat → Int32} {i : Int32} (hd : decode M.2.1 pc = .ok (.iaload, 1)) (hi : vp_in i Ls) (k : WP d b (some (Ls, xs)) M Q (pc + 1) L (.int (xs i.toNatClampNeg) :: st) g I J) : WP d b (some (Ls, xs)) M Q pc L (.int i :: .ref 2000000 :: st) g I J := by
  intro p l e R s m args below meth c D cA ad0 ad A mc ms Qw H locs cells slots ls C hR hF hX hA hO had hK hce hsl hP hD hS hl
  exact va_sld C.1 C.2.1 hX.1 hX.2.1 hX.2.2 hS hi hd (k p l e R s m args below meth c D cA ad0 ad A mc ms Qw H locs cells slots ls C hR hF hX hA hO had hK hce hsl hP hD hS hl)
theorem xg_slen {Ls : Nat} {xs : Nat → Int32} (hd : decode M.2.1 pc = .ok (.arraylength, 1)) (k : WP d b (some (Ls, xs)) M Q (pc + 1) L (.int (Int32.ofNat Ls) :: st) g I J) : WP d b (some (Ls, xs)) M Q pc L (.ref 2000000 :: st) g I J := by
  intro p l e R s m args below meth c D cA ad0 ad A mc ms Qw H locs cells slots ls C hR hF hX hA hO had hK hce hsl hP hD hS hl
  exact va_slen C.1 C.2.1 hX.1 hX.2.1 hX.2.2 hS hd (k p l e R s m args below meth c D cA ad0 ad A mc ms Qw H locs cells slots ls C hR hF hX hA hO had hK hce hsl hP hD hS hl)
end XH
