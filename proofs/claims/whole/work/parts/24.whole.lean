/-! THE CLAIM OUT OF ONE WALK OF THE LAW'S BODY. Your part is whole_start (and what it stands on); all else here is the same for every law, but numbers. -/
def R_law : String := "CradleVetoLaw"
def lw_P (b : Addr) (xs : List Int32) (args : Array Value) (s : State) : Prop := args = #[.ref b] ∧ s.IntsAt b xs ∧ xs.length ≤ 3072 ∧ (Jvm.Cond.and given_1 narrow_1).before args s = true
def lw_Q (_ : Array Value) (s : State) (o : Outcome) (t : State) : Prop := o = .returned (some (.int 1)) ∧ Framed s o t [] 600000 7302250
def lw_Z (below : List Frame) (a : Array Value) (s : State) : State → Prop := fun t => ∃ o, t.status = .running ∧ Ended t below o ∧ lw_Q a s o t
/-- the law's own end, with 1 on the stack, nothing written that was there before, its room as the claim has it -/
theorem lw_ret {p : Program} {l : Launch} {e : Env} {s : State} {m : MethodId} {below : List Frame} {meth : Method} {c : Code} {b : Nat} (hx : p.tables.exec = Jvm.exec) (hb : c.code = code) (hr : meth.sig.returnType = ret) (hlocks : meth.locks = false) {pc : Nat} {H : Heap} {ls : Array Slot} (hdg : decode code pc = .ok (.ireturn, 1)) : W p l e room_1 s m #[Value.ref b] below meth c H [] 600000 7302250 (lw_Z below #[Value.ref b] s) (F0 m pc ls [.int 1]) := by
  intro T hT X
  obtain ⟨fs, hret, hrun, hended, hW, hframe⟩ := X.leave (v := some (.int 1)) (hlocks := hlocks) (fun h => by rw [hr] at h; cases h)
  have hmeth' : T.vm.method? m = some meth := X.method'
  refine ⟨T.setFrames fs, ?_, .returned (some (.int 1)), hrun, hended, rfl, ⟨_, rfl⟩, hW, hframe⟩
  jvm_step X.here [X.here.top, hx, hb, hdg, hmeth', hr, ret, narrow_b1]
  (try refine ⟨rfl, ?_⟩); (try refine ⟨rfl, ?_⟩)
  first | (intro acts; rw [hret _ acts rfl rfl rfl]) | rw [hret _ _ rfl rfl rfl]
  exact Steps.refl _
/-- what holds at the law's entry: the machine, the code, the tables' words (any of lw_tbl by 'hts w (by decide +kernel)'), the script of L ints xs at the cell b, what the Statement gives of the start (any of its parts by flat_of_before) -/
def lw_At (p : Program) (s : State) (m : MethodId) (meth : Method) (c : Code) (b L : Nat) (xs : Nat → Int32) : Prop :=
  p.tables.exec = Jvm.exec ∧ c.code = code ∧ meth.sig.returnType = ret ∧ c.maxLocals = 4 ∧ s.vm.findClass R_law = some m.cls ∧ (∀ w ∈ lw_tbl, w.before #[Value.ref b] s = true) ∧ va_X b L xs s s.heap ∧ b < s.heap.size ∧ meth.locks = false ∧ (Jvm.Cond.and given_1 narrow_1).before #[Value.ref b] s = true
/-! ===== the law from its entry ===== -/
set_option maxRecDepth 20000 in
set_option maxHeartbeats 4000000 in
theorem law_begin {Inv : xI → xJ → Prop} (hPP : PPs Inv) (h0 : ∀ (I : xI) (J : xJ), Inv (F_17 (xz (F_0 (xz I 0 0)) 57 0)) (G_17 (xz (G_0 (xz J 0 0)) 57 0))) {Ls : Nat} {xs : Nat → Int32} (hLs : Ls ≤ 3072) (I : xI) (J : xJ) : WP 2000 (0, 91, 3349) (some (Ls, xs)) M_L_law (fun r _ _ _ => r = some (.int 1)) 0 [some (.ref 2000000), none, none, none] [] gc_167 I J := by
  refine iL_law_0 (n0 := 0) (rc := 90) (rs := 3339) (by decide +kernel) (by decide +kernel) (by decide +kernel) (by decide +kernel) (by decide +kernel) ?_
  refine xcast (b' := (0, 90, 3339)) (L' := [some (.ref 2000000), none, none, none]) (st' := [.ref 0]) (g' := gc_0) (I' := (xz I 0 0)) (J' := (xz J 0 0)) rfl rfl rfl (by decide +kernel) rfl rfl ?_
  refine iL_law_3 (iL_law_4 (b2 := (1, 56, 1309)) s_X11_init_0 (by decide) (by decide) (by decide) (by decide) ⟨by decide +kernel, by decide +kernel⟩ (fun g' I' J' hq => ?_) (fun r g' I' J' hq => hq.1))
  obtain ⟨-, rfl, rfl, rfl⟩ := hq
  refine iL_law_7 ?_
  refine xcast (b' := (0, 34, 2030)) (L' := [some (.ref 2000000), some (.ref 0), none, none]) (st' := []) (g' := gc_1) (I' := (F_0 (xz I 0 0))) (J' := (G_0 (xz J 0 0))) rfl rfl rfl (by decide +kernel) rfl rfl ?_
  refine iL_law_8 (n0 := 0) (rc := 33) (rs := 1977) (by decide +kernel) (by decide +kernel) (by decide +kernel) (by decide +kernel) (by decide +kernel) ?_
  refine xcast (b' := (0, 33, 1977)) (L' := [some (.ref 2000000), some (.ref 0), none, none]) (st' := [.ref 57]) (g' := gc_100) (I' := (xz (F_0 (xz I 0 0)) 57 0)) (J' := (xz (G_0 (xz J 0 0)) 57 0)) rfl rfl rfl (by decide +kernel) rfl rfl ?_
  refine iL_law_11 (iL_law_12 (b2 := (58, 33, 1977)) s_X12_init_17 (by decide) (by decide) (by decide) (by decide) ⟨by decide +kernel, by decide +kernel⟩ (fun g' I' J' hq => ?_) (fun r g' I' J' hq => hq.1))
  obtain ⟨-, rfl, rfl, rfl⟩ := hq
  refine iL_law_15 (iL_law_16 (iL_law_17 ?_))
  refine xcast (b' := (0, 0, 0)) (L' := [some (.ref 2000000), some (.ref 0), some (.ref 57), some (.int (nI 0))]) (st' := []) (g' := xG1) (I' := (F_17 (xz (F_0 (xz I 0 0)) 57 0))) (J' := (G_17 (xz (G_0 (xz J 0 0)) 57 0))) rfl (by rw [nI_0]) rfl gc_last rfl rfl ?_
  exact law_loop hPP hLs (Ls + 1) 0 (Nat.zero_le _) (by omega) _ _ (h0 I J)
set_option maxRecDepth 20000 in
set_option maxHeartbeats 8000000 in
theorem whole_open {Inv : xI → xJ → Prop} (hPP : PPs Inv) (h0 : ∀ (I : xI) (J : xJ), Inv (F_17 (xz (F_0 (xz I 0 0)) 57 0)) (G_17 (xz (G_0 (xz J 0 0)) 57 0))) {p : Program} {e : Env} {s : State} {m : MethodId} {below : List Frame} {meth : Method} {c : Code} (l : Launch) {b L : Nat} {xs : Nat → Int32} (hL : L ≤ 3072) (C0 : lw_At p s m meth c b L xs) : W p l e room_1 s m #[Value.ref b] below meth c s.heap [] 0 0 (lw_Z below #[Value.ref b] s) (entryFrame m ([Value.ref b] : List Value).toArray 4) := by
  obtain ⟨hx, hb, hr, hml, hown, hts, hX, hbl, hlocks, hgv⟩ := id C0
  have htx : ∀ w ∈ xtb, w.before #[Value.ref b] s = true := fun w h => hts w (List.mem_filter.mp h).1
  have hA0 : ∀ a : Nat, a < s.heap.size → ¬ (fun q : Nat => s.heap.size ≤ q) a := fun a h => Nat.not_le.mpr h
  obtain ⟨c0, i0, k0⟩ := u_known (C := RX0) (T := TX0) (N := 5) htx in_RX0 (htx _ w_615)
  obtain ⟨c1, i1, k1⟩ := u_known (C := RX1) (T := TX1) (N := 2) htx in_RX1 (htx _ w_627)
  obtain ⟨c2, i2, k2⟩ := u_known (C := RX2) (T := TX2) (N := 7) htx in_RX2 (htx _ w_609)
  obtain ⟨c3, i3, k3⟩ := u_known (C := RX3) (T := TX3) (N := 6) htx in_RX3 (htx _ w_645)
  obtain ⟨c4, i4, k4⟩ := u_known (C := RX4) (T := TX4) (N := 5) htx in_RX4 (htx _ w_639)
  obtain ⟨c5, i5, k5⟩ := u_known (C := RX5) (T := TX5) (N := 4) htx in_RX5 (htx _ w_598)
  obtain ⟨c6, i6, k6⟩ := u_known (C := RX6) (T := TX6) (N := 4) htx in_RX6 (htx _ w_437)
  obtain ⟨c7, i7, k7⟩ := u_known (C := RX7) (T := TX7) (N := 5) htx in_RX7 (htx _ w_633)
  obtain ⟨c8, i8, k8⟩ := u_known (C := RX8) (T := TX8) (N := 6) htx in_RX8 (htx _ w_621)
  obtain ⟨c9, i9, k9⟩ := u_known (C := RX9) (T := TX9) (N := 5) htx in_RX9 (htx _ w_651)
  obtain ⟨c10, i10, k10⟩ := u_known (C := RX10) (T := TX10) (N := 5) htx in_RX10 (htx _ w_604)
  obtain ⟨c11, i11, k11⟩ := u_known (C := RX11) (T := TX11) (N := 10) htx in_RX11 (htx _ w_1138)
  obtain ⟨c12, i12, k12⟩ := u_known (C := RX12) (T := TX12) (N := 53) htx in_RX12 (htx _ w_1143)
  obtain ⟨dC, dI, hKc⟩ : ∃ (dC : Nat → ClassId) (dI : Nat → Nat → Nat), ∀ (k : Nat) (q : vw_C), vwCl[k]? = some q → u_Kn s q.1 q.2.1 q.2.2 (dC k) (dI k) := by
    refine ⟨fun k => if k = 0 then c0 else (if k = 1 then c1 else (if k = 2 then c2 else (if k = 3 then c3 else (if k = 4 then c4 else (if k = 5 then c5 else (if k = 6 then c6 else (if k = 7 then c7 else (if k = 8 then c8 else (if k = 9 then c9 else (if k = 10 then c10 else (if k = 11 then c11 else (c12)))))))))))), fun k => if k = 0 then i0 else (if k = 1 then i1 else (if k = 2 then i2 else (if k = 3 then i3 else (if k = 4 then i4 else (if k = 5 then i5 else (if k = 6 then i6 else (if k = 7 then i7 else (if k = 8 then i8 else (if k = 9 then i9 else (if k = 10 then i10 else (if k = 11 then i11 else (i12)))))))))))), ?_⟩
    intro k q hq
    match k, hq with
    | 0, hq => cases hq; exact k0
    | 1, hq => cases hq; exact k1
    | 2, hq => cases hq; exact k2
    | 3, hq => cases hq; exact k3
    | 4, hq => cases hq; exact k4
    | 5, hq => cases hq; exact k5
    | 6, hq => cases hq; exact k6
    | 7, hq => cases hq; exact k7
    | 8, hq => cases hq; exact k8
    | 9, hq => cases hq; exact k9
    | 10, hq => cases hq; exact k10
    | 11, hq => cases hq; exact k11
    | 12, hq => cases hq; exact k12
    | k + 13, hq => simp [vwCl] at hq
  obtain ⟨a100, ka100, co100, f100, g100, e100⟩ := Cond.arrayClass_spec (htx _ w_315)
  obtain ⟨a101, ka101, co101, f101, g101, e101⟩ := Cond.arrayClass_spec (htx _ w_317)
  obtain ⟨a102, ka102, co102, f102, g102, e102⟩ := Cond.arrayClass_spec (htx _ w_882)
  obtain ⟨a103, ka103, co103, f103, g103, e103⟩ := Cond.arrayClass_spec (htx _ w_887)
  have hovA : (Cond.arrayOver (.array .int)).before #[Value.ref b] s = true := hts _ (List.mem_append_right _ (List.mem_of_getElem? (l := tables_1) (i := 53) (by decide +kernel)))
  have hovO : (Cond.arrayOver (.object RX9)).before #[Value.ref b] s = true := hts _ (List.mem_append_right _ (List.mem_of_getElem? (l := tables_1) (i := 248) (by decide +kernel)))
  obtain ⟨co105, a105, ka105, p105, q105, g105, e105, f105⟩ := arrayOverA_spec hovA
  obtain ⟨co106, a106, ka106, p106, q106, g106, e106, f106⟩ := Cond.arrayOver_spec hovO
  obtain ⟨cA, hc100, hc101, hc102, hc103, hc105, hc106⟩ : ∃ cA : Nat → ClassId, cA 100 = a100 ∧ cA 101 = a101 ∧ cA 102 = a102 ∧ cA 103 = a103 ∧ cA 105 = a105 ∧ cA 106 = a106 := ⟨fun k => if k = 100 then a100 else if k = 101 then a101 else if k = 102 then a102 else if k = 103 then a103 else if k = 105 then a105 else a106, rfl, rfl, rfl, rfl, rfl, rfl⟩
  have hK : va_K (dC, dI) vwCl (xT cA) s := by
    refine ⟨hKc, fun k q hk => ?_⟩
    match k, hk with
    | 0, hk => cases hk; rw [hc100]; exact ⟨fun n z => ⟨fun k h => (by cases h), ka100, g100, co100, e100⟩, f100⟩
    | 1, hk => cases hk; rw [hc101]; exact ⟨fun n z => ⟨fun k h => (by cases h), ka101, g101, co101, e101⟩, f101⟩
    | 2, hk => cases hk; rw [hc102]; exact ⟨fun n z => ⟨fun k h => (by cases h), ka102, g102, co102, e102⟩, f102⟩
    | 3, hk => cases hk; rw [hc103]; exact ⟨fun n z => ⟨fun k h => (by cases h), ka103, g103, co103, e103⟩, f103⟩
    | 4, hk => cases hk; rw [hc105]; exact ⟨fun n z => ⟨fun k h => (by cases h), ka105, g105, co105, e105⟩, f105⟩
    | 5, hk => cases hk; rw [hc106]; exact ⟨fun n z => ⟨fun k h => (by cases h), ka106, g106, co106, e106⟩, ka106, co106, g106, e106, p106, f106⟩
    | k + 6, hk => simp [xT] at hk
  have hNW : xNW s := ⟨va_Nw.of rfl (hts (.methodLinkNest RX5 11 yX6_init "CradleVeto") (List.mem_append_right _ (List.mem_of_getElem? (l := tables_1) (i := 34) (by decide +kernel)))), va_Nw.of rfl (hts (.methodLinkNest RX11 18 yX10_init "CradleVeto") (List.mem_append_right _ (List.mem_of_getElem? (l := tables_1) (i := 69) (by decide +kernel)))), va_Nw.of rfl (hts (.methodLinkNest RX11 71 yX3_init "CradleVeto") (List.mem_append_right _ (List.mem_of_getElem? (l := tables_1) (i := 224) (by decide +kernel)))), va_Nw.of rfl (hts (.methodLinkNest RX11 82 yX9_init "CradleVeto") (List.mem_append_right _ (List.mem_of_getElem? (l := tables_1) (i := 250) (by decide +kernel)))), va_AO.of hovO, hovA⟩
  have hs := flat_of_before _ hgv
  have ht0 : ∃ t : Nat, (Term.static "CradleVeto$House" "LEAST" "[I").eval #[Value.ref b] s none [] s = some (.ref t) ∧ va_T .int t 10 (fun j => .int (([1, 0, 0, 0, 0, 0, 0, 0, 0, -2147483648] : List Int32).getD j 0)) (fun q : Nat => s.heap.size ≤ q) s s.heap := by
    refine va_Tof (by decide) (hs (Cond.arrayOf (Term.static "CradleVeto$House" "LEAST" "[I") .int) (by decide +kernel)) (va_eqt (hs (Cond.eq (.length (Term.static "CradleVeto$House" "LEAST" "[I")) (.int 10)) (by decide +kernel))) (fun j hj => ?_) hA0
    match j, hj with
    | 0, _ => exact va_eqt (hs (Cond.eq (.elem (Term.static "CradleVeto$House" "LEAST" "[I") (.int 0)) (.int (1))) (by decide +kernel))
    | 1, _ => exact va_eqt (hs (Cond.eq (.elem (Term.static "CradleVeto$House" "LEAST" "[I") (.int 1)) (.int (0))) (by decide +kernel))
    | 2, _ => exact va_eqt (hs (Cond.eq (.elem (Term.static "CradleVeto$House" "LEAST" "[I") (.int 2)) (.int (0))) (by decide +kernel))
    | 3, _ => exact va_eqt (hs (Cond.eq (.elem (Term.static "CradleVeto$House" "LEAST" "[I") (.int 3)) (.int (0))) (by decide +kernel))
    | 4, _ => exact va_eqt (hs (Cond.eq (.elem (Term.static "CradleVeto$House" "LEAST" "[I") (.int 4)) (.int (0))) (by decide +kernel))
    | 5, _ => exact va_eqt (hs (Cond.eq (.elem (Term.static "CradleVeto$House" "LEAST" "[I") (.int 5)) (.int (0))) (by decide +kernel))
    | 6, _ => exact va_eqt (hs (Cond.eq (.elem (Term.static "CradleVeto$House" "LEAST" "[I") (.int 6)) (.int (0))) (by decide +kernel))
    | 7, _ => exact va_eqt (hs (Cond.eq (.elem (Term.static "CradleVeto$House" "LEAST" "[I") (.int 7)) (.int (0))) (by decide +kernel))
    | 8, _ => exact va_eqt (hs (Cond.eq (.elem (Term.static "CradleVeto$House" "LEAST" "[I") (.int 8)) (.int (0))) (by decide +kernel))
    | 9, _ => exact va_eqt (hs (Cond.eq (.elem (Term.static "CradleVeto$House" "LEAST" "[I") (.int 9)) (.int (-2147483648))) (by decide +kernel))
    | j + 10, hj => omega
  obtain ⟨t0, et0, hT0⟩ := ht0
  have hZ0 := va_Zref (hts (.laysStatic "CradleVeto$House" "LEAST" "[I") (List.mem_append_right _ (List.mem_of_getElem? (l := tables_1) (i := 345) (by decide +kernel)))) (htx (.initialized "CradleVeto$House") w_55) et0 hA0
  have ht1 : ∃ t : Nat, (Term.static "CradleVeto$House" "MOST" "[I").eval #[Value.ref b] s none [] s = some (.ref t) ∧ va_T .int t 10 (fun j => .int (([9, 9, 3, 99, 9, 2, 9, 9, 95, 2147483647] : List Int32).getD j 0)) (fun q : Nat => s.heap.size ≤ q) s s.heap := by
    refine va_Tof (by decide) (hs (Cond.arrayOf (Term.static "CradleVeto$House" "MOST" "[I") .int) (by decide +kernel)) (va_eqt (hs (Cond.eq (.length (Term.static "CradleVeto$House" "MOST" "[I")) (.int 10)) (by decide +kernel))) (fun j hj => ?_) hA0
    match j, hj with
    | 0, _ => exact va_eqt (hs (Cond.eq (.elem (Term.static "CradleVeto$House" "MOST" "[I") (.int 0)) (.int (9))) (by decide +kernel))
    | 1, _ => exact va_eqt (hs (Cond.eq (.elem (Term.static "CradleVeto$House" "MOST" "[I") (.int 1)) (.int (9))) (by decide +kernel))
    | 2, _ => exact va_eqt (hs (Cond.eq (.elem (Term.static "CradleVeto$House" "MOST" "[I") (.int 2)) (.int (3))) (by decide +kernel))
    | 3, _ => exact va_eqt (hs (Cond.eq (.elem (Term.static "CradleVeto$House" "MOST" "[I") (.int 3)) (.int (99))) (by decide +kernel))
    | 4, _ => exact va_eqt (hs (Cond.eq (.elem (Term.static "CradleVeto$House" "MOST" "[I") (.int 4)) (.int (9))) (by decide +kernel))
    | 5, _ => exact va_eqt (hs (Cond.eq (.elem (Term.static "CradleVeto$House" "MOST" "[I") (.int 5)) (.int (2))) (by decide +kernel))
    | 6, _ => exact va_eqt (hs (Cond.eq (.elem (Term.static "CradleVeto$House" "MOST" "[I") (.int 6)) (.int (9))) (by decide +kernel))
    | 7, _ => exact va_eqt (hs (Cond.eq (.elem (Term.static "CradleVeto$House" "MOST" "[I") (.int 7)) (.int (9))) (by decide +kernel))
    | 8, _ => exact va_eqt (hs (Cond.eq (.elem (Term.static "CradleVeto$House" "MOST" "[I") (.int 8)) (.int (95))) (by decide +kernel))
    | 9, _ => exact va_eqt (hs (Cond.eq (.elem (Term.static "CradleVeto$House" "MOST" "[I") (.int 9)) (.int (2147483647))) (by decide +kernel))
    | j + 10, hj => omega
  obtain ⟨t1, et1, hT1⟩ := ht1
  have hZ1 := va_Zref (hts (.laysStatic "CradleVeto$House" "MOST" "[I") (List.mem_append_right _ (List.mem_of_getElem? (l := tables_1) (i := 347) (by decide +kernel)))) (htx (.initialized "CradleVeto$House") w_55) et1 hA0
  have ht2 : ∃ t : Nat, (Term.static "CradleVeto$Clauses" "ABOVE" "[I").eval #[Value.ref b] s none [] s = some (.ref t) ∧ va_T .int t 8 (fun j => .int (([-1, 0, 0, 2, 1, 3, 0, 6] : List Int32).getD j 0)) (fun q : Nat => s.heap.size ≤ q) s s.heap := by
    refine va_Tof (by decide) (hs (Cond.arrayOf (Term.static "CradleVeto$Clauses" "ABOVE" "[I") .int) (by decide +kernel)) (va_eqt (hs (Cond.eq (.length (Term.static "CradleVeto$Clauses" "ABOVE" "[I")) (.int 8)) (by decide +kernel))) (fun j hj => ?_) hA0
    match j, hj with
    | 0, _ => exact va_eqt (hs (Cond.eq (.elem (Term.static "CradleVeto$Clauses" "ABOVE" "[I") (.int 0)) (.int (-1))) (by decide +kernel))
    | 1, _ => exact va_eqt (hs (Cond.eq (.elem (Term.static "CradleVeto$Clauses" "ABOVE" "[I") (.int 1)) (.int (0))) (by decide +kernel))
    | 2, _ => exact va_eqt (hs (Cond.eq (.elem (Term.static "CradleVeto$Clauses" "ABOVE" "[I") (.int 2)) (.int (0))) (by decide +kernel))
    | 3, _ => exact va_eqt (hs (Cond.eq (.elem (Term.static "CradleVeto$Clauses" "ABOVE" "[I") (.int 3)) (.int (2))) (by decide +kernel))
    | 4, _ => exact va_eqt (hs (Cond.eq (.elem (Term.static "CradleVeto$Clauses" "ABOVE" "[I") (.int 4)) (.int (1))) (by decide +kernel))
    | 5, _ => exact va_eqt (hs (Cond.eq (.elem (Term.static "CradleVeto$Clauses" "ABOVE" "[I") (.int 5)) (.int (3))) (by decide +kernel))
    | 6, _ => exact va_eqt (hs (Cond.eq (.elem (Term.static "CradleVeto$Clauses" "ABOVE" "[I") (.int 6)) (.int (0))) (by decide +kernel))
    | 7, _ => exact va_eqt (hs (Cond.eq (.elem (Term.static "CradleVeto$Clauses" "ABOVE" "[I") (.int 7)) (.int (6))) (by decide +kernel))
    | j + 8, hj => omega
  obtain ⟨t2, et2, hT2⟩ := ht2
  have hZ2 := va_Zref (hts (.laysStatic "CradleVeto$Clauses" "ABOVE" "[I") (List.mem_append_right _ (List.mem_of_getElem? (l := tables_1) (i := 919) (by decide +kernel)))) (htx (.initialized "CradleVeto$Clauses") w_30) et2 hA0
  have ht3 : ∃ t : Nat, (Term.static "CradleVeto$Clauses" "OWN" "[I").eval #[Value.ref b] s none [] s = some (.ref t) ∧ va_T .int t 32 (fun j => .int (([1, 10, 11, 2, 20, 0, 0, 0, 0, 30, 0, 0, 0, 41, 40, 0, 0, 0, 0, 50, 0, 0, 60, 61, 70, 0, 0, 0, 81, 80, 0, 0] : List Int32).getD j 0)) (fun q : Nat => s.heap.size ≤ q) s s.heap := by
    refine va_Tof (by decide) (hs (Cond.arrayOf (Term.static "CradleVeto$Clauses" "OWN" "[I") .int) (by decide +kernel)) (va_eqt (hs (Cond.eq (.length (Term.static "CradleVeto$Clauses" "OWN" "[I")) (.int 32)) (by decide +kernel))) (fun j hj => ?_) hA0
    match j, hj with
    | 0, _ => exact va_eqt (hs (Cond.eq (.elem (Term.static "CradleVeto$Clauses" "OWN" "[I") (.int 0)) (.int (1))) (by decide +kernel))
    | 1, _ => exact va_eqt (hs (Cond.eq (.elem (Term.static "CradleVeto$Clauses" "OWN" "[I") (.int 1)) (.int (10))) (by decide +kernel))
    | 2, _ => exact va_eqt (hs (Cond.eq (.elem (Term.static "CradleVeto$Clauses" "OWN" "[I") (.int 2)) (.int (11))) (by decide +kernel))
    | 3, _ => exact va_eqt (hs (Cond.eq (.elem (Term.static "CradleVeto$Clauses" "OWN" "[I") (.int 3)) (.int (2))) (by decide +kernel))
    | 4, _ => exact va_eqt (hs (Cond.eq (.elem (Term.static "CradleVeto$Clauses" "OWN" "[I") (.int 4)) (.int (20))) (by decide +kernel))
    | 5, _ => exact va_eqt (hs (Cond.eq (.elem (Term.static "CradleVeto$Clauses" "OWN" "[I") (.int 5)) (.int (0))) (by decide +kernel))
    | 6, _ => exact va_eqt (hs (Cond.eq (.elem (Term.static "CradleVeto$Clauses" "OWN" "[I") (.int 6)) (.int (0))) (by decide +kernel))
    | 7, _ => exact va_eqt (hs (Cond.eq (.elem (Term.static "CradleVeto$Clauses" "OWN" "[I") (.int 7)) (.int (0))) (by decide +kernel))
    | 8, _ => exact va_eqt (hs (Cond.eq (.elem (Term.static "CradleVeto$Clauses" "OWN" "[I") (.int 8)) (.int (0))) (by decide +kernel))
    | 9, _ => exact va_eqt (hs (Cond.eq (.elem (Term.static "CradleVeto$Clauses" "OWN" "[I") (.int 9)) (.int (30))) (by decide +kernel))
    | 10, _ => exact va_eqt (hs (Cond.eq (.elem (Term.static "CradleVeto$Clauses" "OWN" "[I") (.int 10)) (.int (0))) (by decide +kernel))
    | 11, _ => exact va_eqt (hs (Cond.eq (.elem (Term.static "CradleVeto$Clauses" "OWN" "[I") (.int 11)) (.int (0))) (by decide +kernel))
    | 12, _ => exact va_eqt (hs (Cond.eq (.elem (Term.static "CradleVeto$Clauses" "OWN" "[I") (.int 12)) (.int (0))) (by decide +kernel))
    | 13, _ => exact va_eqt (hs (Cond.eq (.elem (Term.static "CradleVeto$Clauses" "OWN" "[I") (.int 13)) (.int (41))) (by decide +kernel))
    | 14, _ => exact va_eqt (hs (Cond.eq (.elem (Term.static "CradleVeto$Clauses" "OWN" "[I") (.int 14)) (.int (40))) (by decide +kernel))
    | 15, _ => exact va_eqt (hs (Cond.eq (.elem (Term.static "CradleVeto$Clauses" "OWN" "[I") (.int 15)) (.int (0))) (by decide +kernel))
    | 16, _ => exact va_eqt (hs (Cond.eq (.elem (Term.static "CradleVeto$Clauses" "OWN" "[I") (.int 16)) (.int (0))) (by decide +kernel))
    | 17, _ => exact va_eqt (hs (Cond.eq (.elem (Term.static "CradleVeto$Clauses" "OWN" "[I") (.int 17)) (.int (0))) (by decide +kernel))
    | 18, _ => exact va_eqt (hs (Cond.eq (.elem (Term.static "CradleVeto$Clauses" "OWN" "[I") (.int 18)) (.int (0))) (by decide +kernel))
    | 19, _ => exact va_eqt (hs (Cond.eq (.elem (Term.static "CradleVeto$Clauses" "OWN" "[I") (.int 19)) (.int (50))) (by decide +kernel))
    | 20, _ => exact va_eqt (hs (Cond.eq (.elem (Term.static "CradleVeto$Clauses" "OWN" "[I") (.int 20)) (.int (0))) (by decide +kernel))
    | 21, _ => exact va_eqt (hs (Cond.eq (.elem (Term.static "CradleVeto$Clauses" "OWN" "[I") (.int 21)) (.int (0))) (by decide +kernel))
    | 22, _ => exact va_eqt (hs (Cond.eq (.elem (Term.static "CradleVeto$Clauses" "OWN" "[I") (.int 22)) (.int (60))) (by decide +kernel))
    | 23, _ => exact va_eqt (hs (Cond.eq (.elem (Term.static "CradleVeto$Clauses" "OWN" "[I") (.int 23)) (.int (61))) (by decide +kernel))
    | 24, _ => exact va_eqt (hs (Cond.eq (.elem (Term.static "CradleVeto$Clauses" "OWN" "[I") (.int 24)) (.int (70))) (by decide +kernel))
    | 25, _ => exact va_eqt (hs (Cond.eq (.elem (Term.static "CradleVeto$Clauses" "OWN" "[I") (.int 25)) (.int (0))) (by decide +kernel))
    | 26, _ => exact va_eqt (hs (Cond.eq (.elem (Term.static "CradleVeto$Clauses" "OWN" "[I") (.int 26)) (.int (0))) (by decide +kernel))
    | 27, _ => exact va_eqt (hs (Cond.eq (.elem (Term.static "CradleVeto$Clauses" "OWN" "[I") (.int 27)) (.int (0))) (by decide +kernel))
    | 28, _ => exact va_eqt (hs (Cond.eq (.elem (Term.static "CradleVeto$Clauses" "OWN" "[I") (.int 28)) (.int (81))) (by decide +kernel))
    | 29, _ => exact va_eqt (hs (Cond.eq (.elem (Term.static "CradleVeto$Clauses" "OWN" "[I") (.int 29)) (.int (80))) (by decide +kernel))
    | 30, _ => exact va_eqt (hs (Cond.eq (.elem (Term.static "CradleVeto$Clauses" "OWN" "[I") (.int 30)) (.int (0))) (by decide +kernel))
    | 31, _ => exact va_eqt (hs (Cond.eq (.elem (Term.static "CradleVeto$Clauses" "OWN" "[I") (.int 31)) (.int (0))) (by decide +kernel))
    | j + 32, hj => omega
  obtain ⟨t3, et3, hT3⟩ := ht3
  have hZ3 := va_Zref (hts (.laysStatic "CradleVeto$Clauses" "OWN" "[I") (List.mem_append_right _ (List.mem_of_getElem? (l := tables_1) (i := 917) (by decide +kernel)))) (htx (.initialized "CradleVeto$Clauses") w_30) et3 hA0
  obtain ⟨ad, ha0, ha1, ha2, ha3, haS⟩ : ∃ ad : Nat → Nat, ad 1000000 = t0 ∧ ad 1000001 = t1 ∧ ad 1000002 = t2 ∧ ad 1000003 = t3 ∧ ad 2000000 = b := ⟨fun k => if k = 1000000 then t0 else if k = 1000001 then t1 else if k = 1000002 then t2 else if k = 1000003 then t3 else b, by simp, by simp, by simp, by simp, by simp⟩
  have hO : xRO ad (fun q : Nat => s.heap.size ≤ q) s s.heap := by
    refine ⟨hNW, fun k q hq => ?_⟩
    match k, hq with
    | 0, hq => cases hq; exact ⟨by rw [show 1000000 + 0 = 1000000 from rfl, ha0]; exact hZ0, by rw [show 1000000 + 0 = 1000000 from rfl, ha0]; exact hT0⟩
    | 1, hq => cases hq; exact ⟨by rw [show 1000000 + 1 = 1000001 from rfl, ha1]; exact hZ1, by rw [show 1000000 + 1 = 1000001 from rfl, ha1]; exact hT1⟩
    | 2, hq => cases hq; exact ⟨by rw [show 1000000 + 2 = 1000002 from rfl, ha2]; exact hZ2, by rw [show 1000000 + 2 = 1000002 from rfl, ha2]; exact hT2⟩
    | 3, hq => cases hq; exact ⟨by rw [show 1000000 + 3 = 1000003 from rfl, ha3]; exact hZ3, by rw [show 1000000 + 3 = 1000003 from rfl, ha3]; exact hT3⟩
    | k + 4, hq => simp [xST] at hq
  have hl := lv_entry ([.ref b]) (n := 4) (Nat.le_of_ble_eq_true rfl)
  rw [lg_entry_eq]
  generalize (lg_sl ([.ref b]) ++ List.replicate (4 - (lg_sl ([.ref b])).length) Slot.unset).toArray = ls at hl ⊢
  have hl : lv_has ls 4 [(0, .ref b)] := hl
  refine law_begin hPP h0 hL (fun _ _ => 0) (fun _ _ => 0) p l e room_1 s m #[Value.ref b] below meth c (dC, dI) cA ad ad (fun q : Nat => s.heap.size ≤ q) 600000 7302250 (lw_Z below #[Value.ref b] s) s.heap [] 0 0 ls ⟨hx, hb, hml, hown, htx, hlocks, hr, fun h => absurd h (by decide)⟩ ⟨Nat.le_of_ble_eq_true rfl, Nat.le_of_ble_eq_true rfl, Nat.le_of_ble_eq_true rfl, Nat.le_of_ble_eq_true rfl⟩ ?_ ⟨by rw [haS]; exact hX, by rw [haS]; exact hbl, by rw [haS]; exact Nat.not_le.mpr hbl⟩ (fun q h => h) hO (fun _ => Or.inl rfl) hK (Nat.le_of_ble_eq_true rfl) (Nat.le_of_ble_eq_true rfl) (fun k q h => by simp [xW, gc_167] at h) ⟨fun i j p q h => by simp [xW, gc_167] at h, fun k q h => by simp [xW, gc_167] at h⟩ va_S.rf ?_
  · intro v g I J ad' H locs cells slots ls pc hq _ _ _ hS h1 h2 hret
    subst hq
    refine va_forget (fun q hq => hS.2.2 q hq) ?_
    refine W.widen (k := 600000) (n := 7302250) h1 h2 ?_
    exact lw_ret hx hb hr hlocks hret.1
  · refine xlv_of hl (fun k v hk => ?_)
    match k, hk with
    | 0, hk => cases hk; show (0, Value.ref (ad 2000000)) ∈ _; rw [haS]; exact List.mem_cons_self
    | 1, hk => cases hk
    | 2, hk => cases hk
    | 3, hk => cases hk
    | k + 4, hk => simp at hk
