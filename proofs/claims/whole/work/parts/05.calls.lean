/-- the locals with which a method begins -/
def xen : List Value → List (Option Value)
  | [] => []
  | v :: vs => if v.category = 2 then some v :: none :: xen vs else some v :: xen vs
theorem xen_args (ad : Nat → Nat) : ∀ (vs : List Value) (i k : Nat) (v : Value), (xen vs)[k]? = some (some v) → (i + k, xv ad v) ∈ lv_args i (vs.map (xv ad))
  | [], i, k, v, h => by simp [xen] at h
  | x :: xs, i, k, v, h => by
    have hc : (xv ad x).category = x.category := xv_cat ad x
    by_cases h2 : x.category = 2
    · simp only [xen, h2, if_true] at h
      simp only [List.map_cons, lv_args, hc, h2, if_true]
      match k, h with
      | 0, h => cases h; exact List.mem_cons_self
      | 1, h => cases h
      | k + 2, h =>
        have := xen_args ad xs (i + 2) k v h
        refine List.mem_cons_of_mem _ ?_
        rwa [show i + 2 + k = i + (k + 2) by omega] at this
    · simp only [xen, h2, if_false] at h
      simp only [List.map_cons, lv_args, hc, h2, if_false]
      match k, h with
      | 0, h => cases h; exact List.mem_cons_self
      | k + 1, h =>
        have := xen_args ad xs (i + 1) k v h
        refine List.mem_cons_of_mem _ ?_
        rwa [show i + 1 + k = i + (k + 1) by omega] at this
theorem xen_len (ad : Nat → Nat) : ∀ av : List Value, (lg_sl (av.map (xv ad))).length = (xen av).length
  | [] => rfl
  | x :: xs => by
    have ih := xen_len ad xs
    have hc : (xv ad x).category = x.category := xv_cat ad x
    by_cases h2 : x.category = 2
    · simp only [List.map_cons, lg_sl, List.flatMap_cons, hc, h2, xen, if_true] at ih ⊢
      simp only [List.length_append, List.length_cons, List.length_nil]
      omega
    · simp only [List.map_cons, lg_sl, List.flatMap_cons, hc, h2, xen, if_false] at ih ⊢
      simp only [List.length_append, List.length_cons, List.length_nil]
      omega
/-- the walk of a body gives its contract -/
theorem spec_of {d : Nat} {b : xB} {M : xM} {av : List Value} {g : xG} {I : xI} {J : xJ} {Q : xP} {L : List (Option Value)} (hy : plainName M.1.cls = true) (hn : (xen av).length ≤ M.2.2.1) (hL : L = xen av ++ List.replicate (M.2.2.1 - (xen av).length) none) (h : WP d b none M Q 0 L [] g I J) : Spec d b M av g I J Q := by
  intro l D cA ad sz
  refine Met.ofW (cc := M.2.1) (maxL := M.2.2.1) (ret := M.2.2.2) hy rfl ?_
  intro p e s m args below meth c s₁ B hml hv
  obtain ⟨rfl, rfl, hP, hK, hD0, hO⟩ := hv
  have hts : ∀ w ∈ xtb, w.before (av.map (xv ad)).toArray s = true := fun w hw => atoms_spec (ws := xws M) B.pre w (List.mem_cons_of_mem _ hw)
  have hlen := xen_len ad av
  have hl := lv_entry (av.map (xv ad)) (n := M.2.2.1) (by rw [hlen]; exact hn)
  rw [lg_entry_eq]
  refine h p l e _ s m _ below meth c D cA ad ad _ b.2.1 b.2.2 _ s.heap [] 0 0 _ ⟨B.exec, B.bytes, hml, findClass_of_methodNamed B.named, hts, B.notSynchronized, B.returns, fun h => (name_of_methodNamed B.named B.method).1.trans h⟩ ⟨Nat.le_refl _, Nat.le_refl _, Nat.le_refl _, Nat.le_refl _⟩ ?_ trivial (fun q hq => Or.inr hq) hO (fun _ => Or.inl rfl) hK (by omega) (by omega) hP (hD0.self) va_S.rf ?_
  · intro v g' I' J' ad' H locs cells slots ls pc hq had hP' hD' hS' h1 h2 hret
    have hpost : ∀ t : State, t.heap = H → s.WarmedH t.vm → xQc b.1 D cA ad (va_A (xW ad cA g I J) s.heap.size) Q (av.map (xv ad)).toArray s (.returned (v.map (xv ad'))) t := fun t ht hW => ⟨⟨v, g', I', J', ad', rfl, hq, had, by rw [ht]; exact hP', va_K.moved hW.alike hK, hD'⟩, hS'.F ht⟩
    refine W.widen (k := b.2.1) (n := b.2.2) h1 h2 ?_
    match v, hret, hpost with
    | some (.int x), ⟨hd, hr⟩, hpost =>
      rcases hr with hr | ⟨hr, hn⟩
      · exact W.iret B.exec B.bytes (B.returns.trans hr) hpost hS'.2.2 hd (hlocks := B.notSynchronized)
      · exact W.zret (ty := .boolean) B.exec B.bytes (B.returns.trans hr) hn hpost hS'.2.2 hd (hlocks := B.notSynchronized)
    | some (.long x), ⟨hd, hr⟩, hpost => exact W.lret B.exec B.bytes (B.returns.trans hr) hpost hS'.2.2 hd (hlocks := B.notSynchronized)
    | none, ⟨hd, hr⟩, hpost => exact W.vret B.exec B.bytes (B.returns.trans hr) hpost hS'.2.2 hd (hlocks := B.notSynchronized)
  refine xlv_of hl (fun k v hk => ?_)
  rw [hL] at hk
  by_cases hk2 : k < (xen av).length
  · rw [List.getElem?_append_left hk2] at hk
    have := xen_args ad av 0 k v hk
    rwa [Nat.zero_add] at this
  · rw [List.getElem?_append_right (by omega)] at hk
    have := List.eq_of_mem_replicate (List.mem_of_getElem? hk)
    cases this
theorem Spec.weaken {d : Nat} {b : xB} {sc : xSn} {M : xM} {av : List Value} {g : xG} {I : xI} {J : xJ} {Q Q' : xP} (h : Spec d b M av g I J Q) (hQ : ∀ r g I J, Q r g I J → Q' r g I J) : Spec d b M av g I J Q' := by
  intro l D cA ad sz
  have h0 := h l D cA ad sz
  unfold Met at h0 ⊢
  refine MetFree.mono h0 (fun _ _ h => h) (fun _ _ _ _ _ h => h) ?_
  intro a st o t _ hh
  obtain ⟨⟨⟨r, g, I, J, ad', h1, h2, h3⟩, h4⟩, h5⟩ := hh
  exact ⟨⟨⟨r, g, I, J, ad', h1, hQ _ _ _ _ h2, h3⟩, h4⟩, h5⟩
section XC
variable {d : Nat} {b : xB} {sc : xSn} {M : xM} {Q : xP} {pc : Nat} {L : List (Option Value)} {st : List Value} {g : xG} {I : xI} {J : xJ}
variable {p : Program} {l : Launch} {e : Env} {s : State} {m : MethodId} {args : Array Value} {below : List Frame} {meth : Method} {c : Code} {D : va_G} {cA : Nat → ClassId} {ad0 ad : Nat → Nat} {A : Nat → Prop} {mc ms : Nat} {R : Room} {Qw : State → Prop} {H : Heap} {locs : List Loc} {cells slots : Nat} {ls : Array Slot}
theorem xA_sub (hA : ∀ q, s.heap.size ≤ q → A q) (hD : va_D A (xW ad cA g I J)) (hS : va_S A s.heap H locs) : ∀ q, va_A (xW ad cA g I J) H.size q → A q := by
  intro q h
  rcases h with ⟨k, e, h⟩ | h
  · exact hD.2 k (q, e) h
  · exact hA q (Nat.le_trans hS.1 h)
/-- the callee's start out of the caller's state -/
theorem xpre (hA : ∀ q, s.heap.size ≤ q → A q) (hO : xRO ad A s s.heap) (hK : va_K D vwCl (xT cA) s) (hP : va_P D vwCl (xW ad cA g I J) H) (hD : va_D A (xW ad cA g I J)) (hS : va_S A s.heap H locs) {U : State} (hU : U.heap = H) (hW : s.WarmedH U.vm) : U.heap.size = H.size ∧ va_P D vwCl (xW ad cA g I J) U.heap ∧ va_K D vwCl (xT cA) U ∧ va_D (fun _ => True) (xW ad cA g I J) ∧ xRO ad (va_A (xW ad cA g I J) H.size) U U.heap := by
  refine ⟨by rw [hU], by rw [hU]; exact hP, va_K.moved hW.alike hK, hD.weaken (fun _ _ _ _ => trivial), ?_⟩
  rw [hU]
  exact ((hO.kept (fun a h1 h2 => hS.2.1 a h1 h2)).narrow (xA_sub hA hD hS)).warm hW
theorem xblind {av : List Value} {sz : Nat} : FrameBlind (va_Pc (av.map (xv ad)) (fun U => U.heap.size = sz ∧ va_P D vwCl (xW ad cA g I J) U.heap ∧ va_K D vwCl (xT cA) U ∧ va_D (fun _ => True) (xW ad cA g I J) ∧ xRO ad (va_A (xW ad cA g I J) sz) U U.heap)) := by
  intro a U g mk q
  obtain ⟨q0, q1, qP, qK, qD, qO⟩ := q
  exact ⟨q0, q1, qP, va_K.moved (u := U) (U := U.calling g mk a) (Vm.Alike.refl U.vm) qK, qD, xRO.same (u := U) (U := U.calling g mk a) rfl qO⟩
/-- behind a call -/
theorem xback {n2 mc2 ms2 : Nat} {Q2 : xP} {a : Array Value} {st0 : List Value}
    (hr : va_Run p l e R s m args below meth c H locs cells slots mc2 ms2 (F0 m pc ls st0) (st.map (xv ad)) (xQc n2 D cA ad (va_A (xW ad cA g I J) H.size) Q2 a) (va_A (xW ad cA g I J) H.size))
    (C : xCx M p s m args meth c) (hR : d ≤ R.frames ∧ 40 * d ≤ R.locals ∧ mc ≤ R.cells ∧ ms ≤ R.slots) (hF : xFin b.1 M Q p l e R s m args below meth c D cA ad0 A mc ms Qw) (hX : xSc sc ad A s) (hA : ∀ q, s.heap.size ≤ q → A q) (hO : xRO ad A s s.heap) (had : ∀ k, ad k = ad0 k ∨ (b.1 ≤ k ∧ k < 1000000)) (hK : va_K D vwCl (xT cA) s) (hce : cells + b.2.1 ≤ mc) (hsl : slots + b.2.2 ≤ ms) (hD : va_D A (xW ad cA g I J)) (hS : va_S A s.heap H locs) (hl : xlv ls M.2.2.1 ad L)
    (hb1 : mc2 ≤ b.2.1) (hb2 : ms2 ≤ b.2.2) (hn : b.1 ≤ n2) (hok : 1000000 ≤ n2 ∨ (L.all (xlo n2) = true ∧ st.all (xvo n2) = true))
    (kk : ∀ (r : Option Value) (g' : xG) (I' : xI) (J' : xJ), Q2 r g' I' J' → WP d (b.1, b.2.1 - mc2, b.2.2 - ms2) sc M Q (pc + 3) L (r.toList ++ st) g' I' J') :
    W p l e R s m args below meth c H locs cells slots Qw (F0 m pc ls st0) := by
  intro T hT X
  obtain ⟨v, st₀, t, T', L1, h0, X', hL1, e1, e2, ⟨⟨r, g', I', J', ad', hv, hq, hadd, hP1, hK1, hD1⟩, hz, hk⟩, stp⟩ := hr T hT X
  cases hv
  rw [h0] at hz hk
  have hsub := xA_sub hA hD hS
  have hge : ∀ k, 1000000 ≤ k → ad' k = ad k := fun k hk' => by
    rcases hadd k with h | h
    · exact h
    · omega
  have hS' : va_S A s.heap T'.heap (locs ++ L1) := ⟨Nat.le_trans hS.1 (by rw [e1]; exact hz), fun q h1 h2 => by rw [e1, hk q (Nat.lt_of_lt_of_le h1 hS.1) (fun z => h2 (hsub q z))]; exact hS.2.1 q h1 h2, fun q hq => by
      rcases List.mem_append.mp hq with h | h
      · exact hS.2.2 q h
      · exact hsub _ (hL1 q h)⟩
  have hvals : (∀ (k : Nat) (v : Value), L[k]? = some (some v) → xv ad' v = xv ad v) ∧ st.map (xv ad') = st.map (xv ad) := by
    rcases hok with h | ⟨h1, h2⟩
    · have : ad' = ad := funext fun k => by
        rcases hadd k with h' | h'
        · exact h'
        · omega
      rw [this]
      exact ⟨fun _ _ _ => rfl, rfl⟩
    · have he : ∀ i, i < n2 ∨ 1000000 ≤ i → ad' i = ad i := fun i hi => by
        rcases hadd i with h' | h'
        · exact h'
        · omega
      exact ⟨fun k v hk' => xvo_eq (List.all_eq_true.mp h1 _ (List.mem_of_getElem? hk')) he, xst_ad h2 he⟩
  have hl' : xlv ls M.2.2.1 ad' L := ⟨hl.1, hl.2.1, fun k v hk' => by rw [hvals.1 k v hk']; exact hl.2.2 k v hk'⟩
  have hfin := kk r g' I' J' hq p l e R s m args below meth c D cA ad0 ad' A mc ms Qw T'.heap (locs ++ L1) (cells + mc2) (slots + ms2) ls C hR hF (hX.adEq hge) hA (hO.adEq hge) (fun k => by
      rcases hadd k with h | h
      · rw [h]; exact had k
      · exact Or.inr ⟨Nat.le_trans hn h.1, h.2⟩) hK (by show _ + (b.2.1 - mc2) ≤ mc; omega) (by show _ + (b.2.2 - ms2) ≤ ms; omega) (by rw [e1]; exact hP1) (hD1.weaken (fun k q _ h => hsub q.1 h)) hS' hl'
  obtain ⟨t2, a1, b1⟩ := hfin T' rfl X'
  refine ⟨t2, stp t2 ?_, b1⟩
  have e3 : (r.map (xv ad')).toList ++ st.map (xv ad) = (r.toList ++ st).map (xv ad') := by
    rw [List.map_append, hvals.2]
    cases r <;> rfl
  rw [e3]
  exact a1

theorem xc_V {d2 n idx : Nat} {b2 : xB} {M2 : xM} {Q2 : xP} {As : List Value} {ci N k : Nat} {T : u_T} (hd : decode M.2.1 pc = .ok (.invokevirtual idx, 3)) (hlk : Cond.methodLink M.1.cls idx M2.1 ∈ xtb) (hin : Cond.instanceMethod M2.1 ∈ xtb) (hse : Cond.selects M2.1.cls M2.1 M2.1 ∈ xtb) (hsh : g.1[k]? = some (ci, N)) (hci : ci < 100) (hc : vwCl[ci]? = some (M2.1.cls, T, N)) (hM : xMok M2 n) (hsp : Spec d2 b2 M2 (.ref k :: As) g I J Q2) (hdd : d2 + 1 ≤ d) (hb1 : b2.2.1 ≤ b.2.1) (hb2 : b2.2.2 ≤ b.2.2) (hn2 : b.1 ≤ b2.1) (hok : 1000000 ≤ b2.1 ∨ (L.all (xlo b2.1) = true ∧ st.all (xvo b2.1) = true)) (hn : As.length = n) (hr : (st.map fun v => v.category).sum ≤ 8) (kk : ∀ (r : Option Value) (g' : xG) (I' : xI) (J' : xJ), Q2 r g' I' J' → WP d (b.1, b.2.1 - b2.2.1, b.2.2 - b2.2.2) sc M Q (pc + 3) L (r.toList ++ st) g' I' J') : WP d b sc M Q pc L (As.reverse ++ .ref k :: st) g I J := by
  intro p l e R s m args below meth c D cA ad0 ad A mc ms Qw H locs cells slots ls C hR hF hX hA hO had hK hce hsl hP hD hS hl
  have hblind : FrameBlind (va_Pc ((.ref k :: As).map (xv ad)) _) := xblind (D := D) (cA := cA) (ad := ad) (g := g) (I := I) (J := J) (sz := H.size)
  refine xback (va_runV (As := As.map (xv ad)) (rest := st.map (xv ad)) (b := ad k) (C := M2.1.cls) ⟨C.1, C.2.1, C.2.2.1, C.2.2.2.1, C.2.2.2.2.1⟩ (hsp l D cA ad H.size) ⟨callB_of n C.2.2.2.2.1 (xws_good hM.1) rfl rfl rfl (C.2.2.2.2.1 _ hM.2.1) (C.2.2.2.2.1 _ hlk) hM.2.2.1 ⟨by show d2 + 1 ≤ R.frames; have := hR.1; omega, by show 8 + (M2.2.2.1 + 11) + 40 * d2 ≤ R.locals; have := hM.2.2.2; have := hR.2.1; omega⟩, C.2.2.2.2.1 _ hin, C.2.2.2.2.1 _ hse⟩ ⟨hblind, ?_, fun U hU hW => ⟨rfl, xpre hA hO hK hP hD hS hU hW⟩⟩ rfl (by rw [List.length_map]; exact hn) hl.1 (by simp [List.map_append, List.map_reverse, xv]) (lv_room (by rw [xv_sum]; exact hr)) hd ⟨by have := hR.2.2.1; show cells + b2.2.1 ≤ R.cells; omega, by have := hR.2.2.2; show slots + b2.2.2 ≤ R.slots; omega⟩) C hR hF hX hA hO had hK hce hsl hD hS hl hb1 hb2 hn2 hok kk
  exact va_recv hK hP (ci := ci) (q := (M2.1.cls, T, N)) (q0 := k) hc (by rw [xW_get hsh, xcell_obj hci])
theorem xc_S {d2 n idx : Nat} {b2 : xB} {M2 : xM} {Q2 : xP} {As : List Value} (hd : decode M.2.1 pc = .ok (.invokestatic idx, 3)) (hlk : Cond.methodLink M.1.cls idx M2.1 ∈ xtb) (hst : Cond.static M2.1 ∈ xtb) (hM : xMok M2 n) (hsp : Spec d2 b2 M2 As g I J Q2) (hdd : d2 + 1 ≤ d) (hb1 : b2.2.1 ≤ b.2.1) (hb2 : b2.2.2 ≤ b.2.2) (hn2 : b.1 ≤ b2.1) (hok : 1000000 ≤ b2.1 ∨ (L.all (xlo b2.1) = true ∧ st.all (xvo b2.1) = true)) (hn : As.length = n) (hr : (st.map fun v => v.category).sum ≤ 8) (kk : ∀ (r : Option Value) (g' : xG) (I' : xI) (J' : xJ), Q2 r g' I' J' → WP d (b.1, b.2.1 - b2.2.1, b.2.2 - b2.2.2) sc M Q (pc + 3) L (r.toList ++ st) g' I' J') : WP d b sc M Q pc L (As.reverse ++ st) g I J := by
  intro p l e R s m args below meth c D cA ad0 ad A mc ms Qw H locs cells slots ls C hR hF hX hA hO had hK hce hsl hP hD hS hl
  have hblind : FrameBlind (va_Pc (As.map (xv ad)) _) := xblind (D := D) (cA := cA) (ad := ad) (g := g) (I := I) (J := J) (sz := H.size)
  exact xback (va_runS (As := As.map (xv ad)) (rest := st.map (xv ad)) ⟨C.1, C.2.1, C.2.2.1, C.2.2.2.1, C.2.2.2.2.1⟩ (hsp l D cA ad H.size) ⟨callB_of n C.2.2.2.2.1 (xws_good hM.1) rfl rfl rfl (C.2.2.2.2.1 _ hM.2.1) (C.2.2.2.2.1 _ hlk) hM.2.2.1 ⟨by show d2 + 1 ≤ R.frames; have := hR.1; omega, by show 8 + (M2.2.2.1 + 11) + 40 * d2 ≤ R.locals; have := hM.2.2.2; have := hR.2.1; omega⟩, C.2.2.2.2.1 _ hst⟩ ⟨hblind, fun U hU hW => ⟨rfl, xpre hA hO hK hP hD hS hU hW⟩⟩ rfl (by rw [List.length_map]; exact hn) hl.1 (by simp [List.map_append, List.map_reverse]) (lv_room (by rw [xv_sum]; exact hr)) hd ⟨by have := hR.2.2.1; show cells + b2.2.1 ≤ R.cells; omega, by have := hR.2.2.2; show slots + b2.2.2 ≤ R.slots; omega⟩) C hR hF hX hA hO had hK hce hsl hD hS hl hb1 hb2 hn2 hok kk
theorem xc_I {d2 n idx : Nat} {b2 : xB} {M2 : xM} {Q2 : xP} {As : List Value} {k : Nat} (hd : decode M.2.1 pc = .ok (.invokespecial idx, 3)) (hlk : Cond.methodLink M.1.cls idx M2.1 ∈ xtb) (hin : Cond.instanceMethod M2.1 ∈ xtb) (hnm : M2.1.name = "<init>") (hrt : M2.2.2.2 = none) (hM : xMok M2 n) (hsp : Spec d2 b2 M2 (.ref k :: As) g I J Q2) (hdd : d2 + 1 ≤ d) (hb1 : b2.2.1 ≤ b.2.1) (hb2 : b2.2.2 ≤ b.2.2) (hn2 : b.1 ≤ b2.1) (hok : 1000000 ≤ b2.1 ∨ (L.all (xlo b2.1) = true ∧ st.all (xvo b2.1) = true)) (hn : As.length = n) (hr : (st.map fun v => v.category).sum ≤ 8) (kk : ∀ (r : Option Value) (g' : xG) (I' : xI) (J' : xJ), Q2 r g' I' J' → WP d (b.1, b.2.1 - b2.2.1, b.2.2 - b2.2.2) sc M Q (pc + 3) L (r.toList ++ st) g' I' J') : WP d b sc M Q pc L (As.reverse ++ .ref k :: st) g I J := by
  intro p l e R s m args below meth c D cA ad0 ad A mc ms Qw H locs cells slots ls C hR hF hX hA hO had hK hce hsl hP hD hS hl
  obtain ⟨y2, b2', ml2, rt2⟩ := M2
  dsimp only at hnm hrt
  subst hrt
  have hblind : FrameBlind (va_Pc ((.ref k :: As).map (xv ad)) _) := xblind (D := D) (cA := cA) (ad := ad) (g := g) (I := I) (J := J) (sz := H.size)
  exact xback (va_runI (As := As.map (xv ad)) (rest := st.map (xv ad)) (b := ad k) ⟨C.1, C.2.1, C.2.2.1, C.2.2.2.1, C.2.2.2.2.1⟩ (hsp l D cA ad H.size) ⟨callB_of n C.2.2.2.2.1 (xws_good hM.1) rfl rfl rfl (C.2.2.2.2.1 _ hM.2.1) (C.2.2.2.2.1 _ hlk) hM.2.2.1 ⟨by show d2 + 1 ≤ R.frames; have := hR.1; omega, by show 8 + (ml2 + 11) + 40 * d2 ≤ R.locals; have : ml2 ≤ 20 := hM.2.2.2; have := hR.2.1; omega⟩, hnm, C.2.2.2.2.1 _ hin⟩ ⟨hblind, fun U hU hW => ⟨rfl, xpre hA hO hK hP hD hS hU hW⟩⟩ rfl (by rw [List.length_map]; exact hn) hl.1 (by simp [List.map_append, List.map_reverse, xv]) (lv_room (by rw [xv_sum]; exact hr)) hd ⟨by have := hR.2.2.1; show cells + b2.2.1 ≤ R.cells; omega, by have := hR.2.2.2; show slots + b2.2.2 ≤ R.slots; omega⟩) C hR hF hX hA hO had hK hce hsl hD hS hl hb1 hb2 hn2 hok kk
theorem xc_VN {d2 n idx : Nat} {b2 : xB} {M2 : xM} {Q2 : xP} {As : List Value} {host : String} {ci N k : Nat} {T : u_T} (hd : decode M.2.1 pc = .ok (.invokevirtual idx, 3)) (hlk : ∀ s, xNW s → va_Nw (.methodLinkNest M.1.cls idx M2.1 host) s) (hin : Cond.instanceMethod M2.1 ∈ xtb) (hse : Cond.selects M2.1.cls M2.1 M2.1 ∈ xtb) (hsh : g.1[k]? = some (ci, N)) (hci : ci < 100) (hc : vwCl[ci]? = some (M2.1.cls, T, N)) (hM : xMok M2 n) (hsp : Spec d2 b2 M2 (.ref k :: As) g I J Q2) (hdd : d2 + 1 ≤ d) (hb1 : b2.2.1 ≤ b.2.1) (hb2 : b2.2.2 ≤ b.2.2) (hn2 : b.1 ≤ b2.1) (hok : 1000000 ≤ b2.1 ∨ (L.all (xlo b2.1) = true ∧ st.all (xvo b2.1) = true)) (hn : As.length = n) (hr : (st.map fun v => v.category).sum ≤ 8) (kk : ∀ (r : Option Value) (g' : xG) (I' : xI) (J' : xJ), Q2 r g' I' J' → WP d (b.1, b.2.1 - b2.2.1, b.2.2 - b2.2.2) sc M Q (pc + 3) L (r.toList ++ st) g' I' J') : WP d b sc M Q pc L (As.reverse ++ .ref k :: st) g I J := by
  intro p l e R s m args below meth c D cA ad0 ad A mc ms Qw H locs cells slots ls C hR hF hX hA hO had hK hce hsl hP hD hS hl
  have hblind : FrameBlind (va_Pc ((.ref k :: As).map (xv ad)) _) := xblind (D := D) (cA := cA) (ad := ad) (g := g) (I := I) (J := J) (sz := H.size)
  refine xback (va_runVN (As := As.map (xv ad)) (rest := st.map (xv ad)) (b := ad k) (C := M2.1.cls) ⟨C.1, C.2.1, C.2.2.1, C.2.2.2.1, C.2.2.2.2.1⟩ (hsp l D cA ad H.size) ⟨va_cnB n C.2.2.2.2.1 (xws_good hM.1) rfl rfl rfl (hlk _ hO.1) (C.2.2.2.2.1 _ hM.2.1) hM.2.2.1 ⟨by show d2 + 1 ≤ R.frames; have := hR.1; omega, by show 8 + (M2.2.2.1 + 11) + 40 * d2 ≤ R.locals; have := hM.2.2.2; have := hR.2.1; omega⟩, C.2.2.2.2.1 _ hin, C.2.2.2.2.1 _ hse⟩ ⟨hblind, ?_, fun U hU hW => ⟨rfl, xpre hA hO hK hP hD hS hU hW⟩⟩ rfl (by rw [List.length_map]; exact hn) hl.1 (by simp [List.map_append, List.map_reverse, xv]) (lv_room (by rw [xv_sum]; exact hr)) hd ⟨by have := hR.2.2.1; show cells + b2.2.1 ≤ R.cells; omega, by have := hR.2.2.2; show slots + b2.2.2 ≤ R.slots; omega⟩) C hR hF hX hA hO had hK hce hsl hD hS hl hb1 hb2 hn2 hok kk
  exact va_recv hK hP (ci := ci) (q := (M2.1.cls, T, N)) (q0 := k) hc (by rw [xW_get hsh, xcell_obj hci])
theorem xc_SN {d2 n idx : Nat} {b2 : xB} {M2 : xM} {Q2 : xP} {As : List Value} {host : String} (hd : decode M.2.1 pc = .ok (.invokestatic idx, 3)) (hlk : ∀ s, xNW s → va_Nw (.methodLinkNest M.1.cls idx M2.1 host) s) (hst : Cond.static M2.1 ∈ xtb) (hM : xMok M2 n) (hsp : Spec d2 b2 M2 As g I J Q2) (hdd : d2 + 1 ≤ d) (hb1 : b2.2.1 ≤ b.2.1) (hb2 : b2.2.2 ≤ b.2.2) (hn2 : b.1 ≤ b2.1) (hok : 1000000 ≤ b2.1 ∨ (L.all (xlo b2.1) = true ∧ st.all (xvo b2.1) = true)) (hn : As.length = n) (hr : (st.map fun v => v.category).sum ≤ 8) (kk : ∀ (r : Option Value) (g' : xG) (I' : xI) (J' : xJ), Q2 r g' I' J' → WP d (b.1, b.2.1 - b2.2.1, b.2.2 - b2.2.2) sc M Q (pc + 3) L (r.toList ++ st) g' I' J') : WP d b sc M Q pc L (As.reverse ++ st) g I J := by
  intro p l e R s m args below meth c D cA ad0 ad A mc ms Qw H locs cells slots ls C hR hF hX hA hO had hK hce hsl hP hD hS hl
  have hblind : FrameBlind (va_Pc (As.map (xv ad)) _) := xblind (D := D) (cA := cA) (ad := ad) (g := g) (I := I) (J := J) (sz := H.size)
  exact xback (va_runSN (As := As.map (xv ad)) (rest := st.map (xv ad)) ⟨C.1, C.2.1, C.2.2.1, C.2.2.2.1, C.2.2.2.2.1⟩ (hsp l D cA ad H.size) ⟨va_cnB n C.2.2.2.2.1 (xws_good hM.1) rfl rfl rfl (hlk _ hO.1) (C.2.2.2.2.1 _ hM.2.1) hM.2.2.1 ⟨by show d2 + 1 ≤ R.frames; have := hR.1; omega, by show 8 + (M2.2.2.1 + 11) + 40 * d2 ≤ R.locals; have := hM.2.2.2; have := hR.2.1; omega⟩, C.2.2.2.2.1 _ hst, trivial⟩ ⟨hblind, fun U hU hW => ⟨rfl, xpre hA hO hK hP hD hS hU hW⟩⟩ rfl (by rw [List.length_map]; exact hn) hl.1 (by simp [List.map_append, List.map_reverse]) (lv_room (by rw [xv_sum]; exact hr)) hd ⟨by have := hR.2.2.1; show cells + b2.2.1 ≤ R.cells; omega, by have := hR.2.2.2; show slots + b2.2.2 ≤ R.slots; omega⟩) C hR hF hX hA hO had hK hce hsl hD hS hl hb1 hb2 hn2 hok kk
theorem xc_IN {d2 n idx : Nat} {b2 : xB} {M2 : xM} {Q2 : xP} {As : List Value} {host : String} {k : Nat} (hd : decode M.2.1 pc = .ok (.invokespecial idx, 3)) (hlk : ∀ s, xNW s → va_Nw (.methodLinkNest M.1.cls idx M2.1 host) s) (hin : Cond.instanceMethod M2.1 ∈ xtb) (hnm : M2.1.name = "<init>") (hrt : M2.2.2.2 = none) (hM : xMok M2 n) (hsp : Spec d2 b2 M2 (.ref k :: As) g I J Q2) (hdd : d2 + 1 ≤ d) (hb1 : b2.2.1 ≤ b.2.1) (hb2 : b2.2.2 ≤ b.2.2) (hn2 : b.1 ≤ b2.1) (hok : 1000000 ≤ b2.1 ∨ (L.all (xlo b2.1) = true ∧ st.all (xvo b2.1) = true)) (hn : As.length = n) (hr : (st.map fun v => v.category).sum ≤ 8) (kk : ∀ (r : Option Value) (g' : xG) (I' : xI) (J' : xJ), Q2 r g' I' J' → WP d (b.1, b.2.1 - b2.2.1, b.2.2 - b2.2.2) sc M Q (pc + 3) L (r.toList ++ st) g' I' J') : WP d b sc M Q pc L (As.reverse ++ .ref k :: st) g I J := by
  intro p l e R s m args below meth c D cA ad0 ad A mc ms Qw H locs cells slots ls C hR hF hX hA hO had hK hce hsl hP hD hS hl
  obtain ⟨y2, b2', ml2, rt2⟩ := M2
  dsimp only at hnm hrt
  subst hrt
  have hblind : FrameBlind (va_Pc ((.ref k :: As).map (xv ad)) _) := xblind (D := D) (cA := cA) (ad := ad) (g := g) (I := I) (J := J) (sz := H.size)
  exact xback (va_runIN (As := As.map (xv ad)) (rest := st.map (xv ad)) (b := ad k) ⟨C.1, C.2.1, C.2.2.1, C.2.2.2.1, C.2.2.2.2.1⟩ (hsp l D cA ad H.size) ⟨va_cnB n C.2.2.2.2.1 (xws_good hM.1) rfl rfl rfl (hlk _ hO.1) (C.2.2.2.2.1 _ hM.2.1) hM.2.2.1 ⟨by show d2 + 1 ≤ R.frames; have := hR.1; omega, by show 8 + (ml2 + 11) + 40 * d2 ≤ R.locals; have : ml2 ≤ 20 := hM.2.2.2; have := hR.2.1; omega⟩, hnm, C.2.2.2.2.1 _ hin⟩ ⟨hblind, fun U hU hW => ⟨rfl, xpre hA hO hK hP hD hS hU hW⟩⟩ rfl (by rw [List.length_map]; exact hn) hl.1 (by simp [List.map_append, List.map_reverse, xv]) (lv_room (by rw [xv_sum]; exact hr)) hd ⟨by have := hR.2.2.1; show cells + b2.2.1 ≤ R.cells; omega, by have := hR.2.2.2; show slots + b2.2.2 ≤ R.slots; omega⟩) C hR hF hX hA hO had hK hce hsl hD hS hl hb1 hb2 hn2 hok kk
end XC
