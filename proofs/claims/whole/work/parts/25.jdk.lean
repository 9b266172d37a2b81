theorem xMetOfWF {l : Launch} {y : MethodName} {ws ws' : List Cond} {rm : Room} {Pc : Array Value → State → Prop} {Qc : Array Value → State → Outcome → State → Prop} {mc ms : Nat} {free : Addr → Prop} {cc : ByteArray} {maxL : Nat} {ret : Option FieldType}
    (hy : plainFor y = true) (hw : ws = Cond.code y cc maxL ret :: ws')
    (body : ∀ (p : Program) (e : Env) (s : State) (m : MethodId) (args : Array Value) (below : List Frame) (meth : Method) (c : Code) (s₁ : State), BodyLoose p l y (headSpec ws rm) cc maxL ret e s m args below meth c s₁ → c.maxLocals = maxL → Pc args s →
      W p l e (headSpec ws rm).room s m args below meth c s.heap [] 0 0 (MQ below Qc args s mc ms free) (entryFrame m args maxL)) : Met l y ws rm Pc Qc mc ms free := by
  refine MetFree.of_bodySF (code := cc) (maxLocals := maxL) (ret := ret) hy ?_ ?_
  · intro args s m h hn
    obtain ⟨meth, c, h1, h2, h3, h4, h5, h6, -, -⟩ := Cond.code_spec hn (atoms_spec (ws := ws) h _ (by rw [hw]; exact List.mem_cons_self))
    exact ⟨meth, c, h1, h2, h3, h4, h5, h6⟩
  · intro p e s m args below meth c s₁ B hml hP _
    have hh0 : s₁.heap = s.heap := by rw [B.state]; rfl
    obtain ⟨t, a1, o, b1, b2, b3⟩ := body p e s m args below meth c s₁ B hml hP s₁ hh0 (Stand.of_body B)
    exact ⟨t, o, a1, b1, b2, ⟨b3.1, b3.2⟩⟩
/-- the same, of a method of the JDK's -/
theorem spec_ofF {d : Nat} {b : xB} {M : xM} {av : List Value} {g : xG} {I : xI} {J : xJ} {Q : xP} {L : List (Option Value)} (hy : plainFor M.1 = true) (hn : (xen av).length ≤ M.2.2.1) (hL : L = xen av ++ List.replicate (M.2.2.1 - (xen av).length) none) (h : WP d b none M Q 0 L [] g I J) : Spec d b M av g I J Q := by
  intro l D cA ad sz
  refine xMetOfWF (cc := M.2.1) (maxL := M.2.2.1) (ret := M.2.2.2) hy rfl ?_
  intro p e s m args below meth c s₁ B hml hv
  obtain ⟨rfl, rfl, hP, hK, hD0, hO⟩ := hv
  have hts : ∀ w ∈ xtb, w.before (av.map (xv ad)).toArray s = true := fun w hw => atoms_spec (ws := xws M) B.pre w (List.mem_cons_of_mem _ hw)
  have hlen := xen_len ad av
  have hl := lv_entry (av.map (xv ad)) (n := M.2.2.1) (by rw [hlen]; exact hn)
  rw [lg_entry_eq]
  refine h p l e _ s m _ below meth c D cA ad ad _ b.2.1 b.2.2 _ s.heap [] 0 0 _ ⟨B.exec, B.bytes, hml, findClass_of_methodNamed B.named, hts, B.notSynchronized, B.returns, fun h => (name_of_methodNamed B.named B.method).1.trans h⟩ ⟨Nat.le_refl _, Nat.le_refl _, Nat.le_refl _, Nat.le_refl _⟩ ?_ trivial (fun q hq => Or.inr hq) hO (fun _ => Or.inl rfl) hK (by omega) (by omega) hP (hD0.self) va_S.rf ?_
  · intro v g' I' J' ad' H locs cells slots ls pc hq had hP' hD' hS' h1 h2 hret
    have hpost : ∀ t : State, t.heap = H → s.WarmedH t.vm → xQc b.1 D cA ad (va_A (xW ad cA g I J) s.heap.size) Q (av.map (xv ad)).toArray s (.returned (v.map (xv ad'))) t := fun t ht hW => ⟨⟨v, g', I', J', ad', rfl, hq, had, by rw [ht]; exact hP', va_K.moved hW.alike hK, hD'⟩, hS'.F ht⟩
    refine W.widen (k := b.2.1) (n := b.2.2) h1 h2 ?_
    match v, hret, hpost with
    | some (.int x), ⟨hd, hr⟩, hpost =>
      rcases hr with hr | ⟨hr, hn⟩
      · exact W.iret B.exec B.bytes (B.returns.trans hr) hpost hS'.2.2 hd (hlocks := B.notSynchronized)
      · exact W.zret (ty := .boolean) B.exec B.bytes (B.returns.trans hr) hn hpost hS'.2.2 hd (hlocks := B.notSynchronized)
    | some (.long x), ⟨hd, hr⟩, hpost => exact W.lret B.exec B.bytes (B.returns.trans hr) hpost hS'.2.2 hd (hlocks := B.notSynchronized)
    | none, ⟨hd, hr⟩, hpost => exact W.vret B.exec B.bytes (B.returns.trans hr) hpost hS'.2.2 hd (hlocks := B.notSynchronized)
  refine xlv_of hl (fun k v hk => ?_)
  rw [hL] at hk
  by_cases hk2 : k < (xen av).length
  · rw [List.getElem?_append_left hk2] at hk
    have := xen_args ad av 0 k v hk
    rwa [Nat.zero_add] at this
  · rw [List.getElem?_append_right (by omega)] at hk
    have := List.eq_of_mem_replicate (List.mem_of_getElem? hk)
    cases this
theorem specF_ofF {d : Nat} {M : xM} {av : List Value} {g : xG} {I I' : xI} {J J' : xJ} {r : Option Value} {L : List (Option Value)} (hy : plainFor M.1 = true) (hn : (xen av).length ≤ M.2.2.1) (hL : L = xen av ++ List.replicate (M.2.2.1 - (xen av).length) none) (h : WP d (1000000, 0, 0) none M (fun r2 g2 I2 J2 => r2 = r ∧ g2 = g ∧ I2 = I' ∧ J2 = J') 0 L [] g I J) : SpecF d M av g I J r I' J' := spec_ofF hy hn hL h
/-! ===== JDK's small ones ===== -/
def f_min (a b : Int32) : Int32 := if b < a then b else a
def f_max (a b : Int32) : Int32 := if a < b then b else a
def f_maxl (a b : Int64) : Int64 := if a < b then b else a
def f_abs (a : Int32) : Int32 := if a < 0 then -a else a
theorem s_J9_min {I : xI} {J : xJ} (a b : Int32) : SpecF 0 M_J9_min_7cf53 [.int a, .int b] xG1 I J (some (.int (f_min a b))) I J := by
  refine specF_ofF (L := [some (.int a), some (.int b)]) (by decide +kernel) (Nat.le_of_ble_eq_true rfl) rfl ?_
  refine iJ9_min_7cf53_0 (iJ9_min_7cf53_1 (iJ9_min_7cf53_2 (fun h2 => ?_) (fun h2 => ?_)))
  · refine iJ9_min_7cf53_9 (iJ9_min_7cf53_10 ?_)
    exact ⟨by simp [f_min, *], rfl, rfl, rfl⟩
  · refine iJ9_min_7cf53_5 (iJ9_min_7cf53_6 (iJ9_min_7cf53_10 ?_))
    exact ⟨by simp [f_min, *], rfl, rfl, rfl⟩
theorem s_J9_max {I : xI} {J : xJ} (a b : Int32) : SpecF 0 M_J9_max_7cf53 [.int a, .int b] xG1 I J (some (.int (f_max a b))) I J := by
  refine specF_ofF (L := [some (.int a), some (.int b)]) (by decide +kernel) (Nat.le_of_ble_eq_true rfl) rfl ?_
  refine iJ9_max_7cf53_0 (iJ9_max_7cf53_1 (iJ9_max_7cf53_2 (fun h2 => ?_) (fun h2 => ?_)))
  · refine iJ9_max_7cf53_9 (iJ9_max_7cf53_10 ?_)
    exact ⟨by simp [f_max, *], rfl, rfl, rfl⟩
  · refine iJ9_max_7cf53_5 (iJ9_max_7cf53_6 (iJ9_max_7cf53_10 ?_))
    exact ⟨by simp [f_max, *], rfl, rfl, rfl⟩
theorem s_J9_abs {I : xI} {J : xJ} (a : Int32) : SpecF 0 M_J9_abs_0f7a4 [.int a] xG1 I J (some (.int (f_abs a))) I J := by
  refine specF_ofF (L := [some (.int a)]) (by decide +kernel) (Nat.le_of_ble_eq_true rfl) rfl ?_
  refine iJ9_abs_0f7a4_0 (iJ9_abs_0f7a4_1 (fun h1 => ?_) (fun h1 => ?_))
  · refine iJ9_abs_0f7a4_9 (iJ9_abs_0f7a4_10 ?_)
    refine ⟨congrArg (fun z => some (Value.int z)) ?_, rfl, rfl, rfl⟩
    unfold f_abs
    grind
  · refine iJ9_abs_0f7a4_4 (iJ9_abs_0f7a4_5 (iJ9_abs_0f7a4_6 (iJ9_abs_0f7a4_10 ?_)))
    refine ⟨congrArg (fun z => some (Value.int z)) ?_, rfl, rfl, rfl⟩
    unfold f_abs
    grind
theorem lg_cmp_neg {a b : Int64} (h : lg_cmp a b < 0) : a < b := by
  unfold lg_cmp at h
  grind
theorem lg_cmp_nneg {a b : Int64} (h : ¬ lg_cmp a b < 0) : ¬ a < b := by
  unfold lg_cmp at h
  grind
theorem s_J9_maxl {I : xI} {J : xJ} (a b : Int64) : SpecF 0 M_J9_max_f86c9 [.long a, .long b] xG1 I J (some (.long (f_maxl a b))) I J := by
  refine specF_ofF (L := [some (.long a), none, some (.long b), none]) (by decide +kernel) (Nat.le_of_ble_eq_true rfl) rfl ?_
  refine iJ9_max_f86c9_0 (iJ9_max_f86c9_1 (iJ9_max_f86c9_2 (iJ9_max_f86c9_3 (fun h3 => ?_) (fun h3 => ?_))))
  · refine iJ9_max_f86c9_10 (iJ9_max_f86c9_11 ?_)
    refine ⟨congrArg (fun z => some (Value.long z)) ?_, rfl, rfl, rfl⟩
    unfold f_maxl
    first | rw [if_pos (lg_cmp_neg ‹_›)] | rw [if_neg (lg_cmp_nneg ‹_›)]
  · refine iJ9_max_f86c9_6 (iJ9_max_f86c9_7 (iJ9_max_f86c9_11 ?_))
    refine ⟨congrArg (fun z => some (Value.long z)) ?_, rfl, rfl, rfl⟩
    unfold f_maxl
    first | rw [if_pos (lg_cmp_neg ‹_›)] | rw [if_neg (lg_cmp_nneg ‹_›)]
theorem s_fill {I : xI} {J : xJ} (e N : Nat) (v : Int64) (hs : xG1.1[e]? = some (101, N)) (hN : N < 1000) : SpecF 0 M_J7_fill_d0a16 [.ref e, .long v] xG1 I J none I (xf J e N v) := by
  refine specF_ofF (L := [some (.ref e), some (.long v), none, none, none]) (by decide +kernel) (Nat.le_of_ble_eq_true rfl) rfl ?_
  have key : ∀ n i : Nat, i + n = N → WP 0 (1000000, 0, 0) none M_J7_fill_d0a16 (fun r2 g2 I2 J2 => r2 = none ∧ g2 = xG1 ∧ I2 = I ∧ J2 = xf J e N v) 6 [some (.ref e), some (.long v), none, some (.int (nI i)), some (.int (nI N))] [] xG1 I (xf J e i v) := by
    intro n
    induction n with
    | zero =>
      intro i hi
      obtain rfl : i = N := by omega
      refine iJ7_fill_d0a16_6 (iJ7_fill_d0a16_7 (iJ7_fill_d0a16_9 (fun h9 => ?_) (fun h9 => absurd (Int32.le_refl _) (by first | exact h9 | exact fun q => q h9))))
      refine iJ7_fill_d0a16_22 ?_
      exact ⟨rfl, rfl, rfl, rfl⟩
    | succ n ih =>
      intro i hi
      refine iJ7_fill_d0a16_6 (iJ7_fill_d0a16_7 (iJ7_fill_d0a16_9 (fun h9 => absurd h9 (nI_ge (by omega) (by omega))) (fun h9 => ?_)))
      refine iJ7_fill_d0a16_12 (iJ7_fill_d0a16_13 (iJ7_fill_d0a16_14 (iJ7_fill_d0a16_15 hs (vp_in_nI (by omega) (by omega)) (iJ7_fill_d0a16_16 (iJ7_fill_d0a16_19 ?_)))))
      rw [nI_clamp (by omega), xf_s]
      have e1 : nI i + (1) = nI (i + 1) := nI_1 i
      rw [e1]
      exact ih (i + 1) (by omega)
  refine iJ7_fill_d0a16_0 (iJ7_fill_d0a16_1 (iJ7_fill_d0a16_2 (iJ7_fill_d0a16_3 hs (iJ7_fill_d0a16_4 ?_))))
  have := key N 0 (by omega)
  rw [xf_0] at this
  exact this
