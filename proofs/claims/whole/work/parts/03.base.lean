/-! ===== the abstract machine: a world of numbered cells, ints and longs in two tables, references fixed ===== -/
abbrev xG : Type := List (Nat × Nat) × List (Nat × Nat × Nat)
abbrev xI : Type := Nat → Nat → Int32
abbrev xJ : Type := Nat → Nat → Int64
abbrev xM : Type := MethodName × ByteArray × Nat × Option FieldType
abbrev xB : Type := Nat × Nat × Nat
abbrev xP : Type := Option Value → xG → xI → xJ → Prop
def xtb : List Cond := lw_tbl.filter goodWord
theorem xtb_lw {w : Cond} (h : w ∈ lw_tbl) (hg : goodWord w = true) : w ∈ xtb := List.mem_filter.mpr ⟨h, hg⟩
theorem xtb_t {w : Cond} (i : Nat) (h : tables_1[i]? = some w) (hg : goodWord w = true) : w ∈ xtb := xtb_lw (List.mem_append_right _ (List.mem_of_getElem? h)) hg
theorem xtb_k {w : Cond} (i : Nat) (h : (k2_sels lw_privs)[i]? = some w) (hg : goodWord w = true) : w ∈ xtb := xtb_lw (List.mem_append_left _ (List.mem_of_getElem? h)) hg
def xws (M : xM) : List Cond := Cond.code M.1 M.2.1 M.2.2.1 M.2.2.2 :: xtb
theorem xws_good {M : xM} (h : Cond.code M.1 M.2.1 M.2.2.1 M.2.2.2 ∈ xtb) : GoodIn xtb (xws M) := by
  have key : ∀ w ∈ xtb, w ∈ xtb ∧ ((w.onTables && w.keeps) = true ∨ ∃ ty, w = .arrayClass ty) := fun w hw => ⟨hw, good_of_word (List.mem_filter.mp hw).2⟩
  intro w hw
  rcases List.mem_cons.mp hw with rfl | hw
  · exact key _ h
  · exact key _ hw
def xr (g : xG) (k j : Nat) : Option Nat := (g.2.find? (fun t => t.1 == k && t.2.1 == j)).map (fun t => t.2.2)
def xu {α : Type} (I : Nat → Nat → α) (k j : Nat) (v : α) : Nat → Nat → α := fun a b => if a = k ∧ b = j then v else I a b
def xz {α : Type} (I : Nat → Nat → α) (k : Nat) (v : α) : Nat → Nat → α := fun a b => if a = k then v else I a b
theorem xu_eq {α : Type} {I : Nat → Nat → α} {k j : Nat} {v : α} : xu I k j v k j = v := if_pos ⟨rfl, rfl⟩
theorem xu_row {α : Type} {I : Nat → Nat → α} {k j : Nat} {v : α} {a b : Nat} (h : ¬ a = k) : xu I k j v a b = I a b := if_neg (fun q => h q.1)
theorem xu_col {α : Type} {I : Nat → Nat → α} {k j : Nat} {v : α} {a b : Nat} (h : ¬ b = j) : xu I k j v a b = I a b := if_neg (fun q => h q.2)
theorem xu_rowf {α : Type} {I : Nat → Nat → α} {k j : Nat} {v : α} {a : Nat} (h : ¬ a = k) : xu I k j v a = I a := funext fun b => xu_row h
theorem xz_eq {α : Type} {I : Nat → Nat → α} {k : Nat} {v : α} {b : Nat} : xz I k v k b = v := if_pos rfl
theorem xz_ne {α : Type} {I : Nat → Nat → α} {k : Nat} {v : α} {a b : Nat} (h : ¬ a = k) : xz I k v a b = I a b := if_neg h
theorem xz_nef {α : Type} {I : Nat → Nat → α} {k : Nat} {v : α} {a : Nat} (h : ¬ a = k) : xz I k v a = I a := funext fun b => xz_ne h

/-- the kinds of the fields: 0 an int of some width, 1 a long, 2 a reference -/
def xFT : List (List Nat) := [[2, 2, 2, 2, 0], [2, 2], [2, 2, 2, 2, 2, 0, 0], [2, 2, 0, 0, 0, 0], [2, 2, 2, 2, 0], [2, 2, 0, 0], [2, 2, 2, 0], [2, 2, 2, 0, 0], [2, 2, 2, 2, 0, 1], [2, 0, 0, 0, 0], [2, 2, 0, 0, 0], [2, 2, 2, 2, 2, 2, 2, 2, 2, 2], [0, 0, 2, 2, 2, 2, 0, 2, 2, 2, 0, 0, 2, 2, 2, 2, 2, 0, 0, 0, 0, 0, 2, 2, 2, 2, 2, 2, 2, 0, 2, 0, 2, 2, 1, 1, 1, 2, 0, 1, 2, 2, 0, 2, 2, 0, 2, 0, 2, 2, 2, 2, 2]]
def xft (ci j : Nat) : Nat := (xFT.getD ci []).getD j 0
def xv (ad : Nat → Nat) : Value → Value
  | .ref a => .ref (ad a)
  | v => v
def xfv (ad : Nat → Nat) (g : xG) (I : xI) (J : xJ) (ci k j : Nat) : Value := if xft ci j = 0 then .int (I k j) else if xft ci j = 1 then .long (J k j) else va_rf ((xr g k j).map ad)
def xcell (ad : Nat → Nat) (cA : Nat → ClassId) (g : xG) (I : xI) (J : xJ) (k : Nat) (q : Nat × Nat) : va_E :=
  if q.1 < 100 then .inr (q.1, (List.range q.2).map (xfv ad g I J q.1 k))
  else if q.1 = 101 then .inl (cA 101, q.2, .inr (.inl (J k)))
  else if 105 ≤ q.1 then .inl (cA q.1, q.2, .inr (.inr (.inr (.inr (fun j => (xr g k j).map ad)))))
  else .inl (cA q.1, q.2, .inl (I k))
def xW (ad : Nat → Nat) (cA : Nat → ClassId) (g : xG) (I : xI) (J : xJ) : va_W := (List.range g.1.length).map (fun k => (ad k, xcell ad cA g I J k (g.1.getD k (0, 0))))
def xT (cA : Nat → ClassId) : List (ClassId × FieldType) := [(cA 100, .int), (cA 101, .long), (cA 102, .byte), (cA 103, .short), (cA 105, .array .int), (cA 106, .object RX9)]
theorem xW_len {ad : Nat → Nat} {cA : Nat → ClassId} {g : xG} {I : xI} {J : xJ} : (xW ad cA g I J).length = g.1.length := by simp [xW]
theorem xW_at {ad : Nat → Nat} {cA : Nat → ClassId} {g : xG} {I : xI} {J : xJ} {k : Nat} (h : k < g.1.length) : (xW ad cA g I J)[k]? = some (ad k, xcell ad cA g I J k (g.1.getD k (0, 0))) := by
  unfold xW
  rw [List.getElem?_map, List.getElem?_range h]
  rfl
theorem xW_get {ad : Nat → Nat} {cA : Nat → ClassId} {g : xG} {I : xI} {J : xJ} {k : Nat} {q : Nat × Nat} (h : g.1[k]? = some q) : (xW ad cA g I J)[k]? = some (ad k, xcell ad cA g I J k q) := by
  rw [xW_at (List.getElem?_eq_some_iff.mp h).1]
  simp [List.getD, h]
theorem xcell_ext {ad : Nat → Nat} {cA : Nat → ClassId} {g g' : xG} {I I' : xI} {J J' : xJ} {k : Nat} {q : Nat × Nat} (hI : I' k = I k) (hJ : J' k = J k) (hR : ∀ j, xr g' k j = xr g k j) : xcell ad cA g' I' J' k q = xcell ad cA g I J k q := by
  have h1 : xfv ad g' I' J' q.1 k = xfv ad g I J q.1 k := funext fun j => by simp only [xfv, hI, hJ, hR]
  simp only [xcell, h1, hI, hJ, hR]
theorem xW_set {ad : Nat → Nat} {cA : Nat → ClassId} {g g' : xG} {I I' : xI} {J J' : xJ} {k : Nat} {q : Nat × Nat} {e : va_E} (h : g.1[k]? = some q) (hg : g'.1 = g.1) (he : xcell ad cA g' I' J' k q = e) (ho : ∀ k', ¬ k' = k → I' k' = I k' ∧ J' k' = J k' ∧ ∀ j, xr g' k' j = xr g k' j) : xW ad cA g' I' J' = (xW ad cA g I J).set k (ad k, e) := by
  have hk := (List.getElem?_eq_some_iff.mp h).1
  apply List.ext_getElem?
  intro i
  by_cases hi : i = k
  · subst hi
    rw [List.getElem?_set_self (by rw [xW_len]; exact hk), xW_get (by rw [hg]; exact h), he]
  · rw [List.getElem?_set_ne (Ne.symm hi)]
    by_cases hl : i < g.1.length
    · rw [xW_at (by rw [hg]; exact hl), xW_at hl, hg]
      obtain ⟨a1, a2, a3⟩ := ho i hi
      rw [xcell_ext a1 a2 a3]
    · rw [List.getElem?_eq_none (by rw [xW_len, hg]; omega), List.getElem?_eq_none (by rw [xW_len]; omega)]
/-- the static tables that the classes hold -/
def xST : List (String × String × List Int32) := [("CradleVeto$House", "LEAST", [1, 0, 0, 0, 0, 0, 0, 0, 0, -2147483648]), ("CradleVeto$House", "MOST", [9, 9, 3, 99, 9, 2, 9, 9, 95, 2147483647]), ("CradleVeto$Clauses", "ABOVE", [-1, 0, 0, 2, 1, 3, 0, 6]), ("CradleVeto$Clauses", "OWN", [1, 10, 11, 2, 20, 0, 0, 0, 0, 30, 0, 0, 0, 41, 40, 0, 0, 0, 0, 50, 0, 0, 60, 61, 70, 0, 0, 0, 81, 80, 0, 0])]
/-- what the tables say that a call may not carry as a plain word: private constructors of nest mates, classes of arrays of references -/
def xNW (U : State) : Prop := va_Nw (.methodLinkNest RX5 11 yX6_init "CradleVeto") U ∧ va_Nw (.methodLinkNest RX11 18 yX10_init "CradleVeto") U ∧ va_Nw (.methodLinkNest RX11 71 yX3_init "CradleVeto") U ∧ va_Nw (.methodLinkNest RX11 82 yX9_init "CradleVeto") U ∧ va_AO RX9 U ∧ va_AOA .int U
theorem xNW.warm {s U : State} (hW : s.WarmedH U.vm) (h : xNW s) : xNW U := ⟨va_Nw.warmM hW h.1, va_Nw.warmM hW h.2.1, va_Nw.warmM hW h.2.2.1, va_Nw.warmM hW h.2.2.2.1, va_AO.moved hW.alike h.2.2.2.2.1, over_moved (a := #[]) (a' := #[]) hW.alike h.2.2.2.2.2⟩
theorem xNW.same {s U : State} (hW : s.vm = U.vm) (h : xNW s) : xNW U := ⟨va_Nw.same rfl hW h.1, va_Nw.same rfl hW h.2.1, va_Nw.same rfl hW h.2.2.1, va_Nw.same rfl hW h.2.2.2.1, va_AO.moved (hW ▸ Vm.Alike.refl s.vm) h.2.2.2.2.1, over_moved (a := #[]) (a' := #[]) (hW ▸ Vm.Alike.refl s.vm) h.2.2.2.2.2⟩
def xRO (ad : Nat → Nat) (A : Nat → Prop) (U : State) (H : Heap) : Prop := xNW U ∧ ∀ (k : Nat) (q : String × String × List Int32), xST[k]? = some q → va_Z q.1 q.2.1 "[I" (.ref (ad (1000000 + k))) A U H ∧ va_T .int (ad (1000000 + k)) q.2.2.length (fun j => .int (q.2.2.getD j 0)) A U H
def xQc (n0 : Nat) (D : va_G) (cA : Nat → ClassId) (ad0 : Nat → Nat) (A : Nat → Prop) (Q : xP) : Array Value → State → Outcome → State → Prop := fun _ st oc t => (∃ (r : Option Value) (g : xG) (I : xI) (J : xJ) (ad : Nat → Nat), oc = .returned (r.map (xv ad)) ∧ Q r g I J ∧ (∀ k, ad k = ad0 k ∨ (n0 ≤ k ∧ k < 1000000)) ∧ va_P D vwCl (xW ad cA g I J) t.heap ∧ va_K D vwCl (xT cA) t ∧ va_D A (xW ad cA g I J)) ∧ va_F A st t
def Spec (d : Nat) (b : xB) (M : xM) (av : List Value) (g : xG) (I : xI) (J : xJ) (Q : xP) : Prop :=
  ∀ (l : Launch) (D : va_G) (cA : Nat → ClassId) (ad : Nat → Nat) (sz : Nat), Met l M.1 (xws M) ({ frames := d, cells := b.2.1, slots := b.2.2, locals := 40 * d }) (va_Pc (av.map (xv ad)) (fun U => U.heap.size = sz ∧ va_P D vwCl (xW ad cA g I J) U.heap ∧ va_K D vwCl (xT cA) U ∧ va_D (fun _ => True) (xW ad cA g I J) ∧ xRO ad (va_A (xW ad cA g I J) sz) U U.heap)) (xQc b.1 D cA ad (va_A (xW ad cA g I J) sz) Q) b.2.1 b.2.2 (va_A (xW ad cA g I J) sz)
def xCx (M : xM) (p : Program) (s : State) (m : MethodId) (args : Array Value) (meth : Method) (c : Code) : Prop := p.tables.exec = Jvm.exec ∧ c.code = M.2.1 ∧ c.maxLocals = M.2.2.1 ∧ s.vm.findClass M.1.cls = some m.cls ∧ (∀ w ∈ xtb, w.before args s = true) ∧ meth.locks = false ∧ meth.sig.returnType = M.2.2.2 ∧ (M.1.name = "<init>" → meth.name = "<init>")
def xlv (ls : Array Slot) (n : Nat) (ad : Nat → Nat) (L : List (Option Value)) : Prop := ls.size = n ∧ lv_wf ls ∧ ∀ (k : Nat) (v : Value), L[k]? = some (some v) → ls[k]? = some (.val (xv ad v))
/-- the script, where a method has it: its length and ints -/
abbrev xSn : Type := Option (Nat × (Nat → Int32))
def xSc (sc : xSn) (ad : Nat → Nat) (A : Nat → Prop) (s : State) : Prop := match sc with
  | none => True
  | some q => va_X (ad 2000000) q.1 q.2 s s.heap ∧ ad 2000000 < s.heap.size ∧ ¬ A (ad 2000000)
/-- the instruction that returns v -/
def xRet (M : xM) (v : Option Value) (pc : Nat) : Prop := match v with
  | some (.int x) => decode M.2.1 pc = .ok (.ireturn, 1) ∧ (M.2.2.2 = some .int ∨ (M.2.2.2 = some .boolean ∧ narrow .boolean (.int x) = .int x))
  | some (.long _) => decode M.2.1 pc = .ok (.lreturn, 1) ∧ M.2.2.2 = some .long
  | none => decode M.2.1 pc = .ok (.return_, 1) ∧ M.2.2.2 = none
  | _ => False
def xFin (n0 : Nat) (M : xM) (Q : xP) (p : Program) (l : Launch) (e : Env) (R : Room) (s : State) (m : MethodId) (args : Array Value) (below : List Frame) (meth : Method) (c : Code) (D : va_G) (cA : Nat → ClassId) (ad0 : Nat → Nat) (A : Nat → Prop) (mc ms : Nat) (Qw : State → Prop) : Prop :=
  ∀ (v : Option Value) (g : xG) (I : xI) (J : xJ) (ad : Nat → Nat) (H : Heap) (locs : List Loc) (cells slots : Nat) (ls : Array Slot) (pc : Nat), Q v g I J → (∀ k, ad k = ad0 k ∨ (n0 ≤ k ∧ k < 1000000)) → va_P D vwCl (xW ad cA g I J) H → va_D A (xW ad cA g I J) → va_S A s.heap H locs → cells ≤ mc → slots ≤ ms → xRet M v pc → W p l e R s m args below meth c H locs cells slots Qw (F0 m pc ls (v.toList.map (xv ad)))
def WP (d : Nat) (b : xB) (sc : xSn) (M : xM) (Q : xP) (pc : Nat) (L : List (Option Value)) (st : List Value) (g : xG) (I : xI) (J : xJ) : Prop :=
  ∀ (p : Program) (l : Launch) (e : Env) (R : Room) (s : State) (m : MethodId) (args : Array Value) (below : List Frame) (meth : Method) (c : Code) (D : va_G) (cA : Nat → ClassId) (ad0 ad : Nat → Nat) (A : Nat → Prop) (mc ms : Nat) (Qw : State → Prop) (H : Heap) (locs : List Loc) (cells slots : Nat) (ls : Array Slot),
    xCx M p s m args meth c → (d ≤ R.frames ∧ 40 * d ≤ R.locals ∧ mc ≤ R.cells ∧ ms ≤ R.slots) → xFin b.1 M Q p l e R s m args below meth c D cA ad0 A mc ms Qw → xSc sc ad A s → (∀ q, s.heap.size ≤ q → A q) → xRO ad A s s.heap → (∀ k, ad k = ad0 k ∨ (b.1 ≤ k ∧ k < 1000000)) → va_K D vwCl (xT cA) s → cells + b.2.1 ≤ mc → slots + b.2.2 ≤ ms → va_P D vwCl (xW ad cA g I J) H → va_D A (xW ad cA g I J) → va_S A s.heap H locs → xlv ls M.2.2.1 ad L →
    W p l e R s m args below meth c H locs cells slots Qw (F0 m pc ls (st.map (xv ad)))
theorem xSc.adEq {sc : xSn} {ad ad' : Nat → Nat} {A : Nat → Prop} {s : State} (h : xSc sc ad A s) (he : ∀ k, 1000000 ≤ k → ad' k = ad k) : xSc sc ad' A s := by
  cases sc with
  | none => trivial
  | some q =>
    show va_X (ad' 2000000) q.1 q.2 s s.heap ∧ ad' 2000000 < s.heap.size ∧ ¬ A (ad' 2000000)
    rw [he 2000000 (by omega)]
    exact h
/-- the locals as a list of pairs -/
def xlp (ad : Nat → Nat) (L : List (Option Value)) : List (Nat × Value) := (List.range L.length).filterMap (fun k => match L[k]? with
  | some (some v) => some (k, xv ad v)
  | _ => none)
theorem xlp_mem {ad : Nat → Nat} {L : List (Option Value)} {q : Nat × Value} : q ∈ xlp ad L ↔ ∃ v, L[q.1]? = some (some v) ∧ q.2 = xv ad v := by
  unfold xlp
  rw [List.mem_filterMap]
  constructor
  · rintro ⟨k, hk, h⟩
    split at h
    · next v hv =>
      cases h
      exact ⟨v, hv, rfl⟩
    · cases h
  · rintro ⟨v, hv, he⟩
    refine ⟨q.1, List.mem_range.mpr (List.getElem?_eq_some_iff.mp hv).1, ?_⟩
    rw [hv]
    simp [← he]
theorem xlv_has {ls : Array Slot} {n : Nat} {ad : Nat → Nat} {L : List (Option Value)} (h : xlv ls n ad L) : lv_has ls n (xlp ad L) := by
  refine ⟨h.1, h.2.1, fun q hq => ?_⟩
  obtain ⟨v, hv, he⟩ := xlp_mem.mp hq
  rw [he]
  exact h.2.2 _ _ hv
theorem xlv_of {ls : Array Slot} {n : Nat} {ad : Nat → Nat} {L : List (Option Value)} {lv : List (Nat × Value)} (h : lv_has ls n lv) (hm : ∀ k v, L[k]? = some (some v) → (k, xv ad v) ∈ lv) : xlv ls n ad L := ⟨h.1, h.2.1, fun k v hk => h.2.2 _ (hm k v hk)⟩
theorem xlv_weak {ls : Array Slot} {n : Nat} {ad : Nat → Nat} {L L' : List (Option Value)} (h : xlv ls n ad L) (hm : ∀ (k : Nat) (v : Value), L'[k]? = some (some v) → L[k]? = some (some v)) : xlv ls n ad L' := ⟨h.1, h.2.1, fun k v hk => h.2.2 _ _ (hm k v hk)⟩
/-- no long begins right below: what a store into the next local would break -/
def xn2 : Option Value → Prop
  | some (.long _) => False
  | some (.double _) => False
  | _ => True
theorem xn2_cat {v : Value} {ad : Nat → Nat} (h : xn2 (some v)) : (xv ad v).category = 1 := by
  cases v <;> first | rfl | exact h.elim
/-- L' is L with v put at i -/
def xput (L L' : List (Option Value)) (i : Nat) (v : Value) : Prop := ∀ k x, L'[k]? = some (some x) → (k = i ∧ x = v) ∨ (¬ k = i ∧ L[k]? = some (some x) ∧ (k + 1 = i → xn2 (some x)))
def xput2 (L L' : List (Option Value)) (i : Nat) (v : Value) : Prop := ∀ k x, L'[k]? = some (some x) → (k = i ∧ x = v) ∨ (¬ k = i ∧ ¬ k = i + 1 ∧ L[k]? = some (some x) ∧ (k + 1 = i → xn2 (some x)))
theorem xput_has {ls : Array Slot} {n i : Nat} {v : Value} {ad : Nat → Nat} {L L' : List (Option Value)} (hp : xput L L' i v) (h : lv_has ls n ((i, xv ad v) :: (xlp ad L).filter (fun q => !(q.1 == i) && !(q.1 + 1 == i && q.2.category == 2)))) : xlv ls n ad L' := by
  refine xlv_of h (fun k x hk => ?_)
  rcases hp k x hk with ⟨rfl, rfl⟩ | ⟨h1, h2, h3⟩
  · exact List.mem_cons_self
  · refine List.mem_cons_of_mem _ (List.mem_filter.mpr ⟨xlp_mem.mpr ⟨x, h2, rfl⟩, ?_⟩)
    by_cases h4 : k + 1 = i
    · have := xn2_cat (ad := ad) (h3 h4)
      simp [h1, this]
    · simp [h1, h4]
theorem xput2_has {ls : Array Slot} {n i : Nat} {v : Value} {ad : Nat → Nat} {L L' : List (Option Value)} (hp : xput2 L L' i v) (h : lv_has ls n ((i, xv ad v) :: (xlp ad L).filter (fun q => !(q.1 == i) && (!(q.1 == i + 1) && !(q.1 + 1 == i && q.2.category == 2))))) : xlv ls n ad L' := by
  refine xlv_of h (fun k x hk => ?_)
  rcases hp k x hk with ⟨rfl, rfl⟩ | ⟨h1, h1', h2, h3⟩
  · exact List.mem_cons_self
  · refine List.mem_cons_of_mem _ (List.mem_filter.mpr ⟨xlp_mem.mpr ⟨x, h2, rfl⟩, ?_⟩)
    by_cases h4 : k + 1 = i
    · have := xn2_cat (ad := ad) (h3 h4)
      simp [h1, h1', this]
    · simp [h1, h1', h4]
section XR
variable {d : Nat} {b : xB} {sc : xSn} {M : xM} {Q : xP} {pc : Nat} {L : List (Option Value)} {st : List Value} {g : xG} {I : xI} {J : xJ}
theorem wp_weak {L' : List (Option Value)} (hm : ∀ (k : Nat) (v : Value), L'[k]? = some (some v) → L[k]? = some (some v)) (k : WP d b sc M Q pc L' st g I J) : WP d b sc M Q pc L st g I J := by
  intro p l e R s m args below meth c D cA ad0 ad A mc ms Qw H locs cells slots ls C hR hF hX hA hO had hK hce hsl hP hD hS hl
  exact (k p l e R s m args below meth c D cA ad0 ad A mc ms Qw H locs cells slots ls C hR hF hX hA hO had hK hce hsl hP hD hS (xlv_weak hl hm))
theorem xr_iconst {n : Int} {v : Int32} (hd : decode M.2.1 pc = .ok (.iconst n, 1)) (hv : Int32.ofInt n = v) (k : WP d b sc M Q (pc + 1) L (.int v :: st) g I J) : WP d b sc M Q pc L ( st) g I J := by
  intro p l e R s m args below meth c D cA ad0 ad A mc ms Qw H locs cells slots ls C hR hF hX hA hO had hK hce hsl hP hD hS hl
  exact lv_iconst C.1 C.2.1 hd hv (k p l e R s m args below meth c D cA ad0 ad A mc ms Qw H locs cells slots ls C hR hF hX hA hO had hK hce hsl hP hD hS hl)
theorem xr_bipush {n : Int} {v : Int32} (hd : decode M.2.1 pc = .ok (.bipush n, 2)) (hv : (Int8.ofInt n).toInt32 = v) (k : WP d b sc M Q (pc + 2) L (.int v :: st) g I J) : WP d b sc M Q pc L ( st) g I J := by
  intro p l e R s m args below meth c D cA ad0 ad A mc ms Qw H locs cells slots ls C hR hF hX hA hO had hK hce hsl hP hD hS hl
  exact lv_bipush C.1 C.2.1 hd hv (k p l e R s m args below meth c D cA ad0 ad A mc ms Qw H locs cells slots ls C hR hF hX hA hO had hK hce hsl hP hD hS hl)
theorem xr_sipush {n : Int} {v : Int32} (hd : decode M.2.1 pc = .ok (.sipush n, 3)) (hv : (Int16.ofInt n).toInt32 = v) (k : WP d b sc M Q (pc + 3) L (.int v :: st) g I J) : WP d b sc M Q pc L ( st) g I J := by
  intro p l e R s m args below meth c D cA ad0 ad A mc ms Qw H locs cells slots ls C hR hF hX hA hO had hK hce hsl hP hD hS hl
  exact lv_sipush C.1 C.2.1 hd hv (k p l e R s m args below meth c D cA ad0 ad A mc ms Qw H locs cells slots ls C hR hF hX hA hO had hK hce hsl hP hD hS hl)
theorem xr_lconst {n : Fin 2} {v : Int64} (hd : decode M.2.1 pc = .ok (.lconst n, 1)) (hv : Int64.ofNat (n : Nat) = v) (k : WP d b sc M Q (pc + 1) L (.long v :: st) g I J) : WP d b sc M Q pc L ( st) g I J := by
  intro p l e R s m args below meth c D cA ad0 ad A mc ms Qw H locs cells slots ls C hR hF hX hA hO had hK hce hsl hP hD hS hl
  exact lv_lconst C.1 C.2.1 hd hv (k p l e R s m args below meth c D cA ad0 ad A mc ms Qw H locs cells slots ls C hR hF hX hA hO had hK hce hsl hP hD hS hl)
theorem xr_iload_n {n : Fin 4} {i : Nat} {x : Int32} (hd : decode M.2.1 pc = .ok (.iload_n n, 1)) (hi : (n : Nat) = i) (hl0 : L[i]? = some (some (.int x))) (k : WP d b sc M Q (pc + 1) L (.int x :: st) g I J) : WP d b sc M Q pc L ( st) g I J := by
  intro p l e R s m args below meth c D cA ad0 ad A mc ms Qw H locs cells slots ls C hR hF hX hA hO had hK hce hsl hP hD hS hl
  exact lv_iload_n C.1 C.2.1 hd hi (hl.2.2 _ _ hl0) (k p l e R s m args below meth c D cA ad0 ad A mc ms Qw H locs cells slots ls C hR hF hX hA hO had hK hce hsl hP hD hS hl)
theorem xr_iload {i : Nat} {x : Int32} (hd : decode M.2.1 pc = .ok (.iload i, 2)) (hl0 : L[i]? = some (some (.int x))) (k : WP d b sc M Q (pc + 2) L (.int x :: st) g I J) : WP d b sc M Q pc L ( st) g I J := by
  intro p l e R s m args below meth c D cA ad0 ad A mc ms Qw H locs cells slots ls C hR hF hX hA hO had hK hce hsl hP hD hS hl
  exact lv_iload C.1 C.2.1 hd (hl.2.2 _ _ hl0) (k p l e R s m args below meth c D cA ad0 ad A mc ms Qw H locs cells slots ls C hR hF hX hA hO had hK hce hsl hP hD hS hl)
theorem xr_lload_n {n : Fin 4} {i : Nat} {x : Int64} (hd : decode M.2.1 pc = .ok (.lload_n n, 1)) (hi : (n : Nat) = i) (hl0 : L[i]? = some (some (.long x))) (k : WP d b sc M Q (pc + 1) L (.long x :: st) g I J) : WP d b sc M Q pc L ( st) g I J := by
  intro p l e R s m args below meth c D cA ad0 ad A mc ms Qw H locs cells slots ls C hR hF hX hA hO had hK hce hsl hP hD hS hl
  exact lv_lload_n C.1 C.2.1 hd hi (hl.2.2 _ _ hl0) (k p l e R s m args below meth c D cA ad0 ad A mc ms Qw H locs cells slots ls C hR hF hX hA hO had hK hce hsl hP hD hS hl)
theorem xr_lload {i : Nat} {x : Int64} (hd : decode M.2.1 pc = .ok (.lload i, 2)) (hl0 : L[i]? = some (some (.long x))) (k : WP d b sc M Q (pc + 2) L (.long x :: st) g I J) : WP d b sc M Q pc L ( st) g I J := by
  intro p l e R s m args below meth c D cA ad0 ad A mc ms Qw H locs cells slots ls C hR hF hX hA hO had hK hce hsl hP hD hS hl
  exact lv_lload C.1 C.2.1 hd (hl.2.2 _ _ hl0) (k p l e R s m args below meth c D cA ad0 ad A mc ms Qw H locs cells slots ls C hR hF hX hA hO had hK hce hsl hP hD hS hl)
theorem xr_aload_n {n : Fin 4} {i : Nat} {x : Nat} (hd : decode M.2.1 pc = .ok (.aload_n n, 1)) (hi : (n : Nat) = i) (hl0 : L[i]? = some (some (.ref x))) (k : WP d b sc M Q (pc + 1) L (.ref x :: st) g I J) : WP d b sc M Q pc L ( st) g I J := by
  intro p l e R s m args below meth c D cA ad0 ad A mc ms Qw H locs cells slots ls C hR hF hX hA hO had hK hce hsl hP hD hS hl
  exact lv_aload_n C.1 C.2.1 hd hi (hl.2.2 _ _ hl0) (k p l e R s m args below meth c D cA ad0 ad A mc ms Qw H locs cells slots ls C hR hF hX hA hO had hK hce hsl hP hD hS hl)
theorem xr_aload {i : Nat} {x : Nat} (hd : decode M.2.1 pc = .ok (.aload i, 2)) (hl0 : L[i]? = some (some (.ref x))) (k : WP d b sc M Q (pc + 2) L (.ref x :: st) g I J) : WP d b sc M Q pc L ( st) g I J := by
  intro p l e R s m args below meth c D cA ad0 ad A mc ms Qw H locs cells slots ls C hR hF hX hA hO had hK hce hsl hP hD hS hl
  exact lv_aload C.1 C.2.1 hd (hl.2.2 _ _ hl0) (k p l e R s m args below meth c D cA ad0 ad A mc ms Qw H locs cells slots ls C hR hF hX hA hO had hK hce hsl hP hD hS hl)
theorem xr_istore_n {n : Fin 4} {i : Nat} {x : Int32} {L' : List (Option Value)} (hd : decode M.2.1 pc = .ok (.istore_n n, 1)) (hi : (n : Nat) = i) (hn : i < M.2.2.1) (hp : xput L L' i (.int x)) (k : WP d b sc M Q (pc + 1) L' st g I J) : WP d b sc M Q pc L (.int x :: st) g I J := by
  intro p l e R s m args below meth c D cA ad0 ad A mc ms Qw H locs cells slots ls C hR hF hX hA hO had hK hce hsl hP hD hS hl
  exact lv_istore_n C.1 C.2.1 hd hi (xlv_has hl) hn rfl (fun ls' h' => (k p l e R s m args below meth c D cA ad0 ad A mc ms Qw H locs cells slots ls' C hR hF hX hA hO had hK hce hsl hP hD hS (xput_has hp h')))
theorem xr_istore {i : Nat} {x : Int32} {L' : List (Option Value)} (hd : decode M.2.1 pc = .ok (.istore i, 2))  (hn : i < M.2.2.1) (hp : xput L L' i (.int x)) (k : WP d b sc M Q (pc + 2) L' st g I J) : WP d b sc M Q pc L (.int x :: st) g I J := by
  intro p l e R s m args below meth c D cA ad0 ad A mc ms Qw H locs cells slots ls C hR hF hX hA hO had hK hce hsl hP hD hS hl
  exact lv_istore C.1 C.2.1 hd (xlv_has hl) hn rfl (fun ls' h' => (k p l e R s m args below meth c D cA ad0 ad A mc ms Qw H locs cells slots ls' C hR hF hX hA hO had hK hce hsl hP hD hS (xput_has hp h')))
theorem xr_astore_n {n : Fin 4} {i : Nat} {x : Nat} {L' : List (Option Value)} (hd : decode M.2.1 pc = .ok (.astore_n n, 1)) (hi : (n : Nat) = i) (hn : i < M.2.2.1) (hp : xput L L' i (.ref x)) (k : WP d b sc M Q (pc + 1) L' st g I J) : WP d b sc M Q pc L (.ref x :: st) g I J := by
  intro p l e R s m args below meth c D cA ad0 ad A mc ms Qw H locs cells slots ls C hR hF hX hA hO had hK hce hsl hP hD hS hl
  exact lv_astore_n C.1 C.2.1 hd hi (xlv_has hl) hn rfl (fun ls' h' => (k p l e R s m args below meth c D cA ad0 ad A mc ms Qw H locs cells slots ls' C hR hF hX hA hO had hK hce hsl hP hD hS (xput_has hp h')))
theorem xr_astore {i : Nat} {x : Nat} {L' : List (Option Value)} (hd : decode M.2.1 pc = .ok (.astore i, 2))  (hn : i < M.2.2.1) (hp : xput L L' i (.ref x)) (k : WP d b sc M Q (pc + 2) L' st g I J) : WP d b sc M Q pc L (.ref x :: st) g I J := by
  intro p l e R s m args below meth c D cA ad0 ad A mc ms Qw H locs cells slots ls C hR hF hX hA hO had hK hce hsl hP hD hS hl
  exact lv_astore C.1 C.2.1 hd (xlv_has hl) hn rfl (fun ls' h' => (k p l e R s m args below meth c D cA ad0 ad A mc ms Qw H locs cells slots ls' C hR hF hX hA hO had hK hce hsl hP hD hS (xput_has hp h')))
theorem xr_lstore_n {n : Fin 4} {i : Nat} {x : Int64} {L' : List (Option Value)} (hd : decode M.2.1 pc = .ok (.lstore_n n, 1)) (hi : (n : Nat) = i) (hn : i + 1 < M.2.2.1) (hp : xput2 L L' i (.long x)) (k : WP d b sc M Q (pc + 1) L' st g I J) : WP d b sc M Q pc L (.long x :: st) g I J := by
  intro p l e R s m args below meth c D cA ad0 ad A mc ms Qw H locs cells slots ls C hR hF hX hA hO had hK hce hsl hP hD hS hl
  exact lv_lstore_n C.1 C.2.1 hd hi (xlv_has hl) hn rfl (fun ls' h' => (k p l e R s m args below meth c D cA ad0 ad A mc ms Qw H locs cells slots ls' C hR hF hX hA hO had hK hce hsl hP hD hS (xput2_has hp h')))
theorem xr_lstore {i : Nat} {x : Int64} {L' : List (Option Value)} (hd : decode M.2.1 pc = .ok (.lstore i, 2))  (hn : i + 1 < M.2.2.1) (hp : xput2 L L' i (.long x)) (k : WP d b sc M Q (pc + 2) L' st g I J) : WP d b sc M Q pc L (.long x :: st) g I J := by
  intro p l e R s m args below meth c D cA ad0 ad A mc ms Qw H locs cells slots ls C hR hF hX hA hO had hK hce hsl hP hD hS hl
  exact lv_lstore C.1 C.2.1 hd (xlv_has hl) hn rfl (fun ls' h' => (k p l e R s m args below meth c D cA ad0 ad A mc ms Qw H locs cells slots ls' C hR hF hX hA hO had hK hce hsl hP hD hS (xput2_has hp h')))
theorem xr_iinc {i : Nat} {n : Int} {x v : Int32} {L' : List (Option Value)} (hd : decode M.2.1 pc = .ok (.iinc i n, 3)) (hx : L[i]? = some (some (.int x))) (hv : x + Int32.ofInt n = v) (hn : i < M.2.2.1) (hp : xput L L' i (.int v)) (k : WP d b sc M Q (pc + 3) L' st g I J) : WP d b sc M Q pc L st g I J := by
  intro p l e R s m args below meth c D cA ad0 ad A mc ms Qw H locs cells slots ls C hR hF hX hA hO had hK hce hsl hP hD hS hl
  obtain ⟨kk, hkk⟩ := List.getElem?_of_mem (xlp_mem.mpr ⟨_, hx, rfl⟩ : (i, xv ad (.int x)) ∈ xlp ad L)
  exact lv_iinc C.1 C.2.1 hd (xlv_has hl) hkk hv hn rfl (fun ls' h' => (k p l e R s m args below meth c D cA ad0 ad A mc ms Qw H locs cells slots ls' C hR hF hX hA hO had hK hce hsl hP hD hS (xput_has hp h')))
theorem xr_iadd {x y : Int32} (hd : decode M.2.1 pc = .ok (.iadd, 1))  (k : WP d b sc M Q (pc + 1) L (.int (x + y) :: st) g I J) : WP d b sc M Q pc L (.int y :: .int x :: st) g I J := by
  intro p l e R s m args below meth c D cA ad0 ad A mc ms Qw H locs cells slots ls C hR hF hX hA hO had hK hce hsl hP hD hS hl
  exact lv_iadd C.1 C.2.1 hd  (k p l e R s m args below meth c D cA ad0 ad A mc ms Qw H locs cells slots ls C hR hF hX hA hO had hK hce hsl hP hD hS hl)
theorem xr_isub {x y : Int32} (hd : decode M.2.1 pc = .ok (.isub, 1))  (k : WP d b sc M Q (pc + 1) L (.int (x - y) :: st) g I J) : WP d b sc M Q pc L (.int y :: .int x :: st) g I J := by
  intro p l e R s m args below meth c D cA ad0 ad A mc ms Qw H locs cells slots ls C hR hF hX hA hO had hK hce hsl hP hD hS hl
  exact lv_isub C.1 C.2.1 hd  (k p l e R s m args below meth c D cA ad0 ad A mc ms Qw H locs cells slots ls C hR hF hX hA hO had hK hce hsl hP hD hS hl)
theorem xr_imul {x y : Int32} (hd : decode M.2.1 pc = .ok (.imul, 1))  (k : WP d b sc M Q (pc + 1) L (.int (x * y) :: st) g I J) : WP d b sc M Q pc L (.int y :: .int x :: st) g I J := by
  intro p l e R s m args below meth c D cA ad0 ad A mc ms Qw H locs cells slots ls C hR hF hX hA hO had hK hce hsl hP hD hS hl
  exact lv_imul C.1 C.2.1 hd  (k p l e R s m args below meth c D cA ad0 ad A mc ms Qw H locs cells slots ls C hR hF hX hA hO had hK hce hsl hP hD hS hl)
theorem xr_iand {x y : Int32} (hd : decode M.2.1 pc = .ok (.iand, 1))  (k : WP d b sc M Q (pc + 1) L (.int (x &&& y) :: st) g I J) : WP d b sc M Q pc L (.int y :: .int x :: st) g I J := by
  intro p l e R s m args below meth c D cA ad0 ad A mc ms Qw H locs cells slots ls C hR hF hX hA hO had hK hce hsl hP hD hS hl
  exact lv_iand C.1 C.2.1 hd  (k p l e R s m args below meth c D cA ad0 ad A mc ms Qw H locs cells slots ls C hR hF hX hA hO had hK hce hsl hP hD hS hl)
theorem xr_ior {x y : Int32} (hd : decode M.2.1 pc = .ok (.ior, 1))  (k : WP d b sc M Q (pc + 1) L (.int (x ||| y) :: st) g I J) : WP d b sc M Q pc L (.int y :: .int x :: st) g I J := by
  intro p l e R s m args below meth c D cA ad0 ad A mc ms Qw H locs cells slots ls C hR hF hX hA hO had hK hce hsl hP hD hS hl
  exact lv_ior C.1 C.2.1 hd  (k p l e R s m args below meth c D cA ad0 ad A mc ms Qw H locs cells slots ls C hR hF hX hA hO had hK hce hsl hP hD hS hl)
theorem xr_ixor {x y : Int32} (hd : decode M.2.1 pc = .ok (.ixor, 1))  (k : WP d b sc M Q (pc + 1) L (.int (x ^^^ y) :: st) g I J) : WP d b sc M Q pc L (.int y :: .int x :: st) g I J := by
  intro p l e R s m args below meth c D cA ad0 ad A mc ms Qw H locs cells slots ls C hR hF hX hA hO had hK hce hsl hP hD hS hl
  exact lv_ixor C.1 C.2.1 hd  (k p l e R s m args below meth c D cA ad0 ad A mc ms Qw H locs cells slots ls C hR hF hX hA hO had hK hce hsl hP hD hS hl)
theorem xr_idiv {x y : Int32} (hd : decode M.2.1 pc = .ok (.idiv, 1)) (hne : ¬ y = 0) (k : WP d b sc M Q (pc + 1) L (.int (x / y) :: st) g I J) : WP d b sc M Q pc L (.int y :: .int x :: st) g I J := by
  intro p l e R s m args below meth c D cA ad0 ad A mc ms Qw H locs cells slots ls C hR hF hX hA hO had hK hce hsl hP hD hS hl
  exact lv_idiv C.1 C.2.1 hd hne (k p l e R s m args below meth c D cA ad0 ad A mc ms Qw H locs cells slots ls C hR hF hX hA hO had hK hce hsl hP hD hS hl)
theorem xr_irem {x y : Int32} (hd : decode M.2.1 pc = .ok (.irem, 1)) (hne : ¬ y = 0) (k : WP d b sc M Q (pc + 1) L (.int (x - x / y * y) :: st) g I J) : WP d b sc M Q pc L (.int y :: .int x :: st) g I J := by
  intro p l e R s m args below meth c D cA ad0 ad A mc ms Qw H locs cells slots ls C hR hF hX hA hO had hK hce hsl hP hD hS hl
  exact lv_irem C.1 C.2.1 hd hne (k p l e R s m args below meth c D cA ad0 ad A mc ms Qw H locs cells slots ls C hR hF hX hA hO had hK hce hsl hP hD hS hl)
theorem xr_ineg {x : Int32} (hd : decode M.2.1 pc = .ok (.ineg, 1))  (k : WP d b sc M Q (pc + 1) L (.int (-x) :: st) g I J) : WP d b sc M Q pc L (.int x :: st) g I J := by
  intro p l e R s m args below meth c D cA ad0 ad A mc ms Qw H locs cells slots ls C hR hF hX hA hO had hK hce hsl hP hD hS hl
  exact lv_ineg C.1 C.2.1 hd  (k p l e R s m args below meth c D cA ad0 ad A mc ms Qw H locs cells slots ls C hR hF hX hA hO had hK hce hsl hP hD hS hl)
theorem xr_ladd {x y : Int64} (hd : decode M.2.1 pc = .ok (.ladd, 1))  (k : WP d b sc M Q (pc + 1) L (.long (x + y) :: st) g I J) : WP d b sc M Q pc L (.long y :: .long x :: st) g I J := by
  intro p l e R s m args below meth c D cA ad0 ad A mc ms Qw H locs cells slots ls C hR hF hX hA hO had hK hce hsl hP hD hS hl
  exact lv_ladd C.1 C.2.1 hd  (k p l e R s m args below meth c D cA ad0 ad A mc ms Qw H locs cells slots ls C hR hF hX hA hO had hK hce hsl hP hD hS hl)
theorem xr_lsub {x y : Int64} (hd : decode M.2.1 pc = .ok (.lsub, 1))  (k : WP d b sc M Q (pc + 1) L (.long (x - y) :: st) g I J) : WP d b sc M Q pc L (.long y :: .long x :: st) g I J := by
  intro p l e R s m args below meth c D cA ad0 ad A mc ms Qw H locs cells slots ls C hR hF hX hA hO had hK hce hsl hP hD hS hl
  exact lv_lsub C.1 C.2.1 hd  (k p l e R s m args below meth c D cA ad0 ad A mc ms Qw H locs cells slots ls C hR hF hX hA hO had hK hce hsl hP hD hS hl)
theorem xr_lmul {x y : Int64} (hd : decode M.2.1 pc = .ok (.lmul, 1))  (k : WP d b sc M Q (pc + 1) L (.long (x * y) :: st) g I J) : WP d b sc M Q pc L (.long y :: .long x :: st) g I J := by
  intro p l e R s m args below meth c D cA ad0 ad A mc ms Qw H locs cells slots ls C hR hF hX hA hO had hK hce hsl hP hD hS hl
  exact lv_lmul C.1 C.2.1 hd  (k p l e R s m args below meth c D cA ad0 ad A mc ms Qw H locs cells slots ls C hR hF hX hA hO had hK hce hsl hP hD hS hl)
theorem xr_land {x y : Int64} (hd : decode M.2.1 pc = .ok (.land, 1))  (k : WP d b sc M Q (pc + 1) L (.long (x &&& y) :: st) g I J) : WP d b sc M Q pc L (.long y :: .long x :: st) g I J := by
  intro p l e R s m args below meth c D cA ad0 ad A mc ms Qw H locs cells slots ls C hR hF hX hA hO had hK hce hsl hP hD hS hl
  exact lv_land C.1 C.2.1 hd  (k p l e R s m args below meth c D cA ad0 ad A mc ms Qw H locs cells slots ls C hR hF hX hA hO had hK hce hsl hP hD hS hl)
theorem xr_lor {x y : Int64} (hd : decode M.2.1 pc = .ok (.lor, 1))  (k : WP d b sc M Q (pc + 1) L (.long (x ||| y) :: st) g I J) : WP d b sc M Q pc L (.long y :: .long x :: st) g I J := by
  intro p l e R s m args below meth c D cA ad0 ad A mc ms Qw H locs cells slots ls C hR hF hX hA hO had hK hce hsl hP hD hS hl
  exact lv_lor C.1 C.2.1 hd  (k p l e R s m args below meth c D cA ad0 ad A mc ms Qw H locs cells slots ls C hR hF hX hA hO had hK hce hsl hP hD hS hl)
theorem xr_ldiv {x y : Int64} (hd : decode M.2.1 pc = .ok (.ldiv, 1)) (hne : ¬ y = 0) (k : WP d b sc M Q (pc + 1) L (.long (x / y) :: st) g I J) : WP d b sc M Q pc L (.long y :: .long x :: st) g I J := by
  intro p l e R s m args below meth c D cA ad0 ad A mc ms Qw H locs cells slots ls C hR hF hX hA hO had hK hce hsl hP hD hS hl
  exact lv_ldiv C.1 C.2.1 hd hne (k p l e R s m args below meth c D cA ad0 ad A mc ms Qw H locs cells slots ls C hR hF hX hA hO had hK hce hsl hP hD hS hl)
theorem xr_lrem {x y : Int64} (hd : decode M.2.1 pc = .ok (.lrem, 1)) (hne : ¬ y = 0) (k : WP d b sc M Q (pc + 1) L (.long (x - x / y * y) :: st) g I J) : WP d b sc M Q pc L (.long y :: .long x :: st) g I J := by
  intro p l e R s m args below meth c D cA ad0 ad A mc ms Qw H locs cells slots ls C hR hF hX hA hO had hK hce hsl hP hD hS hl
  exact lv_lrem C.1 C.2.1 hd hne (k p l e R s m args below meth c D cA ad0 ad A mc ms Qw H locs cells slots ls C hR hF hX hA hO had hK hce hsl hP hD hS hl)
theorem xr_ishl {x y : Int32} (hd : decode M.2.1 pc = .ok (.ishl, 1))  (k : WP d b sc M Q (pc + 1) L (.int (x <<< (y &&& 31)) :: st) g I J) : WP d b sc M Q pc L (.int y :: .int x :: st) g I J := by
  intro p l e R s m args below meth c D cA ad0 ad A mc ms Qw H locs cells slots ls C hR hF hX hA hO had hK hce hsl hP hD hS hl
  exact lv_ishl C.1 C.2.1 hd  (k p l e R s m args below meth c D cA ad0 ad A mc ms Qw H locs cells slots ls C hR hF hX hA hO had hK hce hsl hP hD hS hl)
theorem xr_ishr {x y : Int32} (hd : decode M.2.1 pc = .ok (.ishr, 1))  (k : WP d b sc M Q (pc + 1) L (.int (x >>> (y &&& 31)) :: st) g I J) : WP d b sc M Q pc L (.int y :: .int x :: st) g I J := by
  intro p l e R s m args below meth c D cA ad0 ad A mc ms Qw H locs cells slots ls C hR hF hX hA hO had hK hce hsl hP hD hS hl
  exact lv_ishr C.1 C.2.1 hd  (k p l e R s m args below meth c D cA ad0 ad A mc ms Qw H locs cells slots ls C hR hF hX hA hO had hK hce hsl hP hD hS hl)
theorem xr_iushr {x y : Int32} (hd : decode M.2.1 pc = .ok (.iushr, 1))  (k : WP d b sc M Q (pc + 1) L (.int ((x.toUInt32 >>> (y.toUInt32 &&& Int32.toUInt32 31)).toInt32) :: st) g I J) : WP d b sc M Q pc L (.int y :: .int x :: st) g I J := by
  intro p l e R s m args below meth c D cA ad0 ad A mc ms Qw H locs cells slots ls C hR hF hX hA hO had hK hce hsl hP hD hS hl
  exact lv_iushr C.1 C.2.1 hd rfl (k p l e R s m args below meth c D cA ad0 ad A mc ms Qw H locs cells slots ls C hR hF hX hA hO had hK hce hsl hP hD hS hl)
theorem xr_lshl {x : Int64} {y : Int32} (hd : decode M.2.1 pc = .ok (.lshl, 1))  (k : WP d b sc M Q (pc + 1) L (.long (x <<< (y.toInt64 &&& 63)) :: st) g I J) : WP d b sc M Q pc L (.int y :: .long x :: st) g I J := by
  intro p l e R s m args below meth c D cA ad0 ad A mc ms Qw H locs cells slots ls C hR hF hX hA hO had hK hce hsl hP hD hS hl
  exact lv_lshl C.1 C.2.1 hd rfl (k p l e R s m args below meth c D cA ad0 ad A mc ms Qw H locs cells slots ls C hR hF hX hA hO had hK hce hsl hP hD hS hl)
theorem xr_i2l {x : Int32} (hd : decode M.2.1 pc = .ok (.i2l, 1))  (k : WP d b sc M Q (pc + 1) L (.long x.toInt64 :: st) g I J) : WP d b sc M Q pc L (.int x :: st) g I J := by
  intro p l e R s m args below meth c D cA ad0 ad A mc ms Qw H locs cells slots ls C hR hF hX hA hO had hK hce hsl hP hD hS hl
  exact lv_i2l C.1 C.2.1 hd rfl (k p l e R s m args below meth c D cA ad0 ad A mc ms Qw H locs cells slots ls C hR hF hX hA hO had hK hce hsl hP hD hS hl)
theorem xr_l2i {x : Int64} (hd : decode M.2.1 pc = .ok (.l2i, 1))  (k : WP d b sc M Q (pc + 1) L (.int x.toInt32 :: st) g I J) : WP d b sc M Q pc L (.long x :: st) g I J := by
  intro p l e R s m args below meth c D cA ad0 ad A mc ms Qw H locs cells slots ls C hR hF hX hA hO had hK hce hsl hP hD hS hl
  exact lv_l2i C.1 C.2.1 hd rfl (k p l e R s m args below meth c D cA ad0 ad A mc ms Qw H locs cells slots ls C hR hF hX hA hO had hK hce hsl hP hD hS hl)
theorem xr_i2b {x : Int32} (hd : decode M.2.1 pc = .ok (.i2b, 1))  (k : WP d b sc M Q (pc + 1) L (.int x.toInt8.toInt32 :: st) g I J) : WP d b sc M Q pc L (.int x :: st) g I J := by
  intro p l e R s m args below meth c D cA ad0 ad A mc ms Qw H locs cells slots ls C hR hF hX hA hO had hK hce hsl hP hD hS hl
  exact lv_i2b C.1 C.2.1 hd rfl (k p l e R s m args below meth c D cA ad0 ad A mc ms Qw H locs cells slots ls C hR hF hX hA hO had hK hce hsl hP hD hS hl)
theorem xr_i2s {x : Int32} (hd : decode M.2.1 pc = .ok (.i2s, 1))  (k : WP d b sc M Q (pc + 1) L (.int x.toInt16.toInt32 :: st) g I J) : WP d b sc M Q pc L (.int x :: st) g I J := by
  intro p l e R s m args below meth c D cA ad0 ad A mc ms Qw H locs cells slots ls C hR hF hX hA hO had hK hce hsl hP hD hS hl
  exact lv_i2s C.1 C.2.1 hd rfl (k p l e R s m args below meth c D cA ad0 ad A mc ms Qw H locs cells slots ls C hR hF hX hA hO had hK hce hsl hP hD hS hl)
theorem xr_lcmp {x y : Int64} (hd : decode M.2.1 pc = .ok (.lcmp, 1))  (k : WP d b sc M Q (pc + 1) L (.int (lg_cmp x y) :: st) g I J) : WP d b sc M Q pc L (.long y :: .long x :: st) g I J := by
  intro p l e R s m args below meth c D cA ad0 ad A mc ms Qw H locs cells slots ls C hR hF hX hA hO had hK hce hsl hP hD hS hl
  exact W.lcmp C.1 C.2.1 hd  (k p l e R s m args below meth c D cA ad0 ad A mc ms Qw H locs cells slots ls C hR hF hX hA hO had hK hce hsl hP hD hS hl)
theorem xr_dup {x : Value} (hd : decode M.2.1 pc = .ok (.dup, 1)) (hx : xn2 (some x)) (k : WP d b sc M Q (pc + 1) L (x :: x :: st) g I J) : WP d b sc M Q pc L (x :: st) g I J := by
  intro p l e R s m args below meth c D cA ad0 ad A mc ms Qw H locs cells slots ls C hR hF hX hA hO had hK hce hsl hP hD hS hl
  exact lv_dup C.1 C.2.1 hd (xn2_cat hx) (k p l e R s m args below meth c D cA ad0 ad A mc ms Qw H locs cells slots ls C hR hF hX hA hO had hK hce hsl hP hD hS hl)
theorem xr_pop {x : Value} (hd : decode M.2.1 pc = .ok (.pop, 1)) (hx : xn2 (some x)) (k : WP d b sc M Q (pc + 1) L ( st) g I J) : WP d b sc M Q pc L (x :: st) g I J := by
  intro p l e R s m args below meth c D cA ad0 ad A mc ms Qw H locs cells slots ls C hR hF hX hA hO had hK hce hsl hP hD hS hl
  exact lv_pop C.1 C.2.1 hd (xn2_cat hx) (k p l e R s m args below meth c D cA ad0 ad A mc ms Qw H locs cells slots ls C hR hF hX hA hO had hK hce hsl hP hD hS hl)
theorem xr_dup_x1 {x y : Value} (hd : decode M.2.1 pc = .ok (.dup_x1, 1)) (hx : xn2 (some x)) (hy : xn2 (some y)) (k : WP d b sc M Q (pc + 1) L (x :: y :: x :: st) g I J) : WP d b sc M Q pc L (x :: y :: st) g I J := by
  intro p l e R s m args below meth c D cA ad0 ad A mc ms Qw H locs cells slots ls C hR hF hX hA hO had hK hce hsl hP hD hS hl
  exact lv_dup_x1 C.1 C.2.1 hd (xn2_cat hx) (xn2_cat hy) (k p l e R s m args below meth c D cA ad0 ad A mc ms Qw H locs cells slots ls C hR hF hX hA hO had hK hce hsl hP hD hS hl)
theorem xr_dup2 {x y : Value} (hd : decode M.2.1 pc = .ok (.dup2, 1)) (hx : xn2 (some x)) (hy : xn2 (some y)) (k : WP d b sc M Q (pc + 1) L (x :: y :: x :: y :: st) g I J) : WP d b sc M Q pc L (x :: y :: st) g I J := by
  intro p l e R s m args below meth c D cA ad0 ad A mc ms Qw H locs cells slots ls C hR hF hX hA hO had hK hce hsl hP hD hS hl
  exact lv_dup2_11 C.1 C.2.1 hd (xn2_cat hx) (xn2_cat hy) (k p l e R s m args below meth c D cA ad0 ad A mc ms Qw H locs cells slots ls C hR hF hX hA hO had hK hce hsl hP hD hS hl)
theorem xr_dup2l {x : Int64} (hd : decode M.2.1 pc = .ok (.dup2, 1))  (k : WP d b sc M Q (pc + 1) L (.long x :: .long x :: st) g I J) : WP d b sc M Q pc L (.long x :: st) g I J := by
  intro p l e R s m args below meth c D cA ad0 ad A mc ms Qw H locs cells slots ls C hR hF hX hA hO had hK hce hsl hP hD hS hl
  exact lv_dup2_2 (va := .long x) C.1 C.2.1 hd rfl (k p l e R s m args below meth c D cA ad0 ad A mc ms Qw H locs cells slots ls C hR hF hX hA hO had hK hce hsl hP hD hS hl)
theorem xr_pop2l {x : Int64} (hd : decode M.2.1 pc = .ok (.pop2, 1))  (k : WP d b sc M Q (pc + 1) L ( st) g I J) : WP d b sc M Q pc L (.long x :: st) g I J := by
  intro p l e R s m args below meth c D cA ad0 ad A mc ms Qw H locs cells slots ls C hR hF hX hA hO had hK hce hsl hP hD hS hl
  exact lv_pop2_2 (va := .long x) C.1 C.2.1 hd rfl (k p l e R s m args below meth c D cA ad0 ad A mc ms Qw H locs cells slots ls C hR hF hX hA hO had hK hce hsl hP hD hS hl)
theorem xr_if_eq {x : Int32} {off : Int} {tgt : Nat} (hd : decode M.2.1 pc = .ok (.ifCond .eq off, 3)) (ht : (pc : Int) + off = (tgt : Int)) (kt : x = 0 → WP d b sc M Q tgt L st g I J) (kf : ¬ x = 0 → WP d b sc M Q (pc + 3) L st g I J) : WP d b sc M Q pc L (.int x :: st) g I J := by
  intro p l e R s m args below meth c D cA ad0 ad A mc ms Qw H locs cells slots ls C hR hF hX hA hO had hK hce hsl hP hD hS hl
  exact lv_if_eq C.1 C.2.1 hd ht (fun h => (kt h p l e R s m args below meth c D cA ad0 ad A mc ms Qw H locs cells slots ls C hR hF hX hA hO had hK hce hsl hP hD hS hl)) (fun h => (kf h p l e R s m args below meth c D cA ad0 ad A mc ms Qw H locs cells slots ls C hR hF hX hA hO had hK hce hsl hP hD hS hl))
theorem xr_icmp_eq {x y : Int32} {off : Int} {tgt : Nat} (hd : decode M.2.1 pc = .ok (.if_icmp .eq off, 3)) (ht : (pc : Int) + off = (tgt : Int)) (kt : x = y → WP d b sc M Q tgt L st g I J) (kf : ¬ x = y → WP d b sc M Q (pc + 3) L st g I J) : WP d b sc M Q pc L (.int y :: .int x :: st) g I J := by
  intro p l e R s m args below meth c D cA ad0 ad A mc ms Qw H locs cells slots ls C hR hF hX hA hO had hK hce hsl hP hD hS hl
  exact lv_icmp_eq C.1 C.2.1 hd ht (fun h => (kt h p l e R s m args below meth c D cA ad0 ad A mc ms Qw H locs cells slots ls C hR hF hX hA hO had hK hce hsl hP hD hS hl)) (fun h => (kf h p l e R s m args below meth c D cA ad0 ad A mc ms Qw H locs cells slots ls C hR hF hX hA hO had hK hce hsl hP hD hS hl))
theorem xr_if_ne {x : Int32} {off : Int} {tgt : Nat} (hd : decode M.2.1 pc = .ok (.ifCond .ne off, 3)) (ht : (pc : Int) + off = (tgt : Int)) (kt : ¬ x = 0 → WP d b sc M Q tgt L st g I J) (kf : x = 0 → WP d b sc M Q (pc + 3) L st g I J) : WP d b sc M Q pc L (.int x :: st) g I J := by
  intro p l e R s m args below meth c D cA ad0 ad A mc ms Qw H locs cells slots ls C hR hF hX hA hO had hK hce hsl hP hD hS hl
  exact lv_if_ne C.1 C.2.1 hd ht (fun h => (kt h p l e R s m args below meth c D cA ad0 ad A mc ms Qw H locs cells slots ls C hR hF hX hA hO had hK hce hsl hP hD hS hl)) (fun h => (kf h p l e R s m args below meth c D cA ad0 ad A mc ms Qw H locs cells slots ls C hR hF hX hA hO had hK hce hsl hP hD hS hl))
theorem xr_icmp_ne {x y : Int32} {off : Int} {tgt : Nat} (hd : decode M.2.1 pc = .ok (.if_icmp .ne off, 3)) (ht : (pc : Int) + off = (tgt : Int)) (kt : ¬ x = y → WP d b sc M Q tgt L st g I J) (kf : x = y → WP d b sc M Q (pc + 3) L st g I J) : WP d b sc M Q pc L (.int y :: .int x :: st) g I J := by
  intro p l e R s m args below meth c D cA ad0 ad A mc ms Qw H locs cells slots ls C hR hF hX hA hO had hK hce hsl hP hD hS hl
  exact lv_icmp_ne C.1 C.2.1 hd ht (fun h => (kt h p l e R s m args below meth c D cA ad0 ad A mc ms Qw H locs cells slots ls C hR hF hX hA hO had hK hce hsl hP hD hS hl)) (fun h => (kf h p l e R s m args below meth c D cA ad0 ad A mc ms Qw H locs cells slots ls C hR hF hX hA hO had hK hce hsl hP hD hS hl))
theorem xr_if_lt {x : Int32} {off : Int} {tgt : Nat} (hd : decode M.2.1 pc = .ok (.ifCond .lt off, 3)) (ht : (pc : Int) + off = (tgt : Int)) (kt : x < 0 → WP d b sc M Q tgt L st g I J) (kf : ¬ x < 0 → WP d b sc M Q (pc + 3) L st g I J) : WP d b sc M Q pc L (.int x :: st) g I J := by
  intro p l e R s m args below meth c D cA ad0 ad A mc ms Qw H locs cells slots ls C hR hF hX hA hO had hK hce hsl hP hD hS hl
  exact lv_if_lt C.1 C.2.1 hd ht (fun h => (kt h p l e R s m args below meth c D cA ad0 ad A mc ms Qw H locs cells slots ls C hR hF hX hA hO had hK hce hsl hP hD hS hl)) (fun h => (kf h p l e R s m args below meth c D cA ad0 ad A mc ms Qw H locs cells slots ls C hR hF hX hA hO had hK hce hsl hP hD hS hl))
theorem xr_icmp_lt {x y : Int32} {off : Int} {tgt : Nat} (hd : decode M.2.1 pc = .ok (.if_icmp .lt off, 3)) (ht : (pc : Int) + off = (tgt : Int)) (kt : x < y → WP d b sc M Q tgt L st g I J) (kf : ¬ x < y → WP d b sc M Q (pc + 3) L st g I J) : WP d b sc M Q pc L (.int y :: .int x :: st) g I J := by
  intro p l e R s m args below meth c D cA ad0 ad A mc ms Qw H locs cells slots ls C hR hF hX hA hO had hK hce hsl hP hD hS hl
  exact lv_icmp_lt C.1 C.2.1 hd ht (fun h => (kt h p l e R s m args below meth c D cA ad0 ad A mc ms Qw H locs cells slots ls C hR hF hX hA hO had hK hce hsl hP hD hS hl)) (fun h => (kf h p l e R s m args below meth c D cA ad0 ad A mc ms Qw H locs cells slots ls C hR hF hX hA hO had hK hce hsl hP hD hS hl))
theorem xr_if_ge {x : Int32} {off : Int} {tgt : Nat} (hd : decode M.2.1 pc = .ok (.ifCond .ge off, 3)) (ht : (pc : Int) + off = (tgt : Int)) (kt : 0 ≤ x → WP d b sc M Q tgt L st g I J) (kf : ¬ 0 ≤ x → WP d b sc M Q (pc + 3) L st g I J) : WP d b sc M Q pc L (.int x :: st) g I J := by
  intro p l e R s m args below meth c D cA ad0 ad A mc ms Qw H locs cells slots ls C hR hF hX hA hO had hK hce hsl hP hD hS hl
  exact lv_if_ge C.1 C.2.1 hd ht (fun h => (kt h p l e R s m args below meth c D cA ad0 ad A mc ms Qw H locs cells slots ls C hR hF hX hA hO had hK hce hsl hP hD hS hl)) (fun h => (kf h p l e R s m args below meth c D cA ad0 ad A mc ms Qw H locs cells slots ls C hR hF hX hA hO had hK hce hsl hP hD hS hl))
theorem xr_icmp_ge {x y : Int32} {off : Int} {tgt : Nat} (hd : decode M.2.1 pc = .ok (.if_icmp .ge off, 3)) (ht : (pc : Int) + off = (tgt : Int)) (kt : y ≤ x → WP d b sc M Q tgt L st g I J) (kf : ¬ y ≤ x → WP d b sc M Q (pc + 3) L st g I J) : WP d b sc M Q pc L (.int y :: .int x :: st) g I J := by
  intro p l e R s m args below meth c D cA ad0 ad A mc ms Qw H locs cells slots ls C hR hF hX hA hO had hK hce hsl hP hD hS hl
  exact lv_icmp_ge C.1 C.2.1 hd ht (fun h => (kt h p l e R s m args below meth c D cA ad0 ad A mc ms Qw H locs cells slots ls C hR hF hX hA hO had hK hce hsl hP hD hS hl)) (fun h => (kf h p l e R s m args below meth c D cA ad0 ad A mc ms Qw H locs cells slots ls C hR hF hX hA hO had hK hce hsl hP hD hS hl))
theorem xr_if_gt {x : Int32} {off : Int} {tgt : Nat} (hd : decode M.2.1 pc = .ok (.ifCond .gt off, 3)) (ht : (pc : Int) + off = (tgt : Int)) (kt : 0 < x → WP d b sc M Q tgt L st g I J) (kf : ¬ 0 < x → WP d b sc M Q (pc + 3) L st g I J) : WP d b sc M Q pc L (.int x :: st) g I J := by
  intro p l e R s m args below meth c D cA ad0 ad A mc ms Qw H locs cells slots ls C hR hF hX hA hO had hK hce hsl hP hD hS hl
  exact lv_if_gt C.1 C.2.1 hd ht (fun h => (kt h p l e R s m args below meth c D cA ad0 ad A mc ms Qw H locs cells slots ls C hR hF hX hA hO had hK hce hsl hP hD hS hl)) (fun h => (kf h p l e R s m args below meth c D cA ad0 ad A mc ms Qw H locs cells slots ls C hR hF hX hA hO had hK hce hsl hP hD hS hl))
theorem xr_icmp_gt {x y : Int32} {off : Int} {tgt : Nat} (hd : decode M.2.1 pc = .ok (.if_icmp .gt off, 3)) (ht : (pc : Int) + off = (tgt : Int)) (kt : y < x → WP d b sc M Q tgt L st g I J) (kf : ¬ y < x → WP d b sc M Q (pc + 3) L st g I J) : WP d b sc M Q pc L (.int y :: .int x :: st) g I J := by
  intro p l e R s m args below meth c D cA ad0 ad A mc ms Qw H locs cells slots ls C hR hF hX hA hO had hK hce hsl hP hD hS hl
  exact lv_icmp_gt C.1 C.2.1 hd ht (fun h => (kt h p l e R s m args below meth c D cA ad0 ad A mc ms Qw H locs cells slots ls C hR hF hX hA hO had hK hce hsl hP hD hS hl)) (fun h => (kf h p l e R s m args below meth c D cA ad0 ad A mc ms Qw H locs cells slots ls C hR hF hX hA hO had hK hce hsl hP hD hS hl))
theorem xr_if_le {x : Int32} {off : Int} {tgt : Nat} (hd : decode M.2.1 pc = .ok (.ifCond .le off, 3)) (ht : (pc : Int) + off = (tgt : Int)) (kt : x ≤ 0 → WP d b sc M Q tgt L st g I J) (kf : ¬ x ≤ 0 → WP d b sc M Q (pc + 3) L st g I J) : WP d b sc M Q pc L (.int x :: st) g I J := by
  intro p l e R s m args below meth c D cA ad0 ad A mc ms Qw H locs cells slots ls C hR hF hX hA hO had hK hce hsl hP hD hS hl
  exact lv_if_le C.1 C.2.1 hd ht (fun h => (kt h p l e R s m args below meth c D cA ad0 ad A mc ms Qw H locs cells slots ls C hR hF hX hA hO had hK hce hsl hP hD hS hl)) (fun h => (kf h p l e R s m args below meth c D cA ad0 ad A mc ms Qw H locs cells slots ls C hR hF hX hA hO had hK hce hsl hP hD hS hl))
theorem xr_icmp_le {x y : Int32} {off : Int} {tgt : Nat} (hd : decode M.2.1 pc = .ok (.if_icmp .le off, 3)) (ht : (pc : Int) + off = (tgt : Int)) (kt : x ≤ y → WP d b sc M Q tgt L st g I J) (kf : ¬ x ≤ y → WP d b sc M Q (pc + 3) L st g I J) : WP d b sc M Q pc L (.int y :: .int x :: st) g I J := by
  intro p l e R s m args below meth c D cA ad0 ad A mc ms Qw H locs cells slots ls C hR hF hX hA hO had hK hce hsl hP hD hS hl
  exact lv_icmp_le C.1 C.2.1 hd ht (fun h => (kt h p l e R s m args below meth c D cA ad0 ad A mc ms Qw H locs cells slots ls C hR hF hX hA hO had hK hce hsl hP hD hS hl)) (fun h => (kf h p l e R s m args below meth c D cA ad0 ad A mc ms Qw H locs cells slots ls C hR hF hX hA hO had hK hce hsl hP hD hS hl))
theorem xr_goto {off : Int} {tgt : Nat} (hd : decode M.2.1 pc = .ok (.goto off, 3)) (ht : (pc : Int) + off = (tgt : Int)) (k : WP d b sc M Q tgt L st g I J) : WP d b sc M Q pc L st g I J := by
  intro p l e R s m args below meth c D cA ad0 ad A mc ms Qw H locs cells slots ls C hR hF hX hA hO had hK hce hsl hP hD hS hl
  exact lv_goto C.1 C.2.1 hd ht (k p l e R s m args below meth c D cA ad0 ad A mc ms Qw H locs cells slots ls C hR hF hX hA hO had hK hce hsl hP hD hS hl)
theorem xr_lookup {dflt : Int} {ps : Array (Int × Int)} {len : Nat} {x : Int32} {off : Int} {tgt : Nat} (hd : decode M.2.1 pc = .ok (.lookupswitch dflt ps, len)) (hp : (ps.toList.zip (ps.toList.drop 1)).all (fun (a, next) => a.1 < next.1) = true) (ho : Op.lookupswitch.offset ps.toList dflt x.toInt = off) (ht : (pc : Int) + off = (tgt : Int)) (k : WP d b sc M Q tgt L st g I J) : WP d b sc M Q pc L (.int x :: st) g I J := by
  intro p l e R s m args below meth c D cA ad0 ad A mc ms Qw H locs cells slots ls C hR hF hX hA hO had hK hce hsl hP hD hS hl
  exact lv_lookup C.1 C.2.1 hd hp ho ht (k p l e R s m args below meth c D cA ad0 ad A mc ms Qw H locs cells slots ls C hR hF hX hA hO had hK hce hsl hP hD hS hl)
theorem xr_tableOut {dflt lo hi : Int} {offs : Array Int} {len : Nat} {x : Int32} {tgt : Nat} (hd : decode M.2.1 pc = .ok (.tableswitch dflt lo hi offs, len)) (h : x.toInt < lo ∨ hi < x.toInt) (ht : (pc : Int) + dflt = (tgt : Int)) (k : WP d b sc M Q tgt L st g I J) : WP d b sc M Q pc L (.int x :: st) g I J := by
  intro p l e R s m args below meth c D cA ad0 ad A mc ms Qw H locs cells slots ls C hR hF hX hA hO had hK hce hsl hP hD hS hl
  exact lv_tableOut C.1 C.2.1 hd h ht (k p l e R s m args below meth c D cA ad0 ad A mc ms Qw H locs cells slots ls C hR hF hX hA hO had hK hce hsl hP hD hS hl)
theorem xr_tableIn {dflt lo hi : Int} {offs : Array Int} {len : Nat} {x : Int32} {off : Int} {tgt : Nat} (hd : decode M.2.1 pc = .ok (.tableswitch dflt lo hi offs, len)) (h1 : ¬ x.toInt < lo) (h2 : ¬ hi < x.toInt) (ho : offs[(x.toInt - lo).toNat]? = some off) (ht : (pc : Int) + off = (tgt : Int)) (k : WP d b sc M Q tgt L st g I J) : WP d b sc M Q pc L (.int x :: st) g I J := by
  intro p l e R s m args below meth c D cA ad0 ad A mc ms Qw H locs cells slots ls C hR hF hX hA hO had hK hce hsl hP hD hS hl
  exact lv_tableIn C.1 C.2.1 hd h1 h2 ho ht (k p l e R s m args below meth c D cA ad0 ad A mc ms Qw H locs cells slots ls C hR hF hX hA hO had hK hce hsl hP hD hS hl)
end XR
