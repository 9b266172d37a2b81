/-! ===== at the start both stand alike; the claim ===== -/
theorem inv0 (I : xI) (J : xJ) : Inv (F_17 (xz (F_0 (xz I 0 0)) 57 0)) (G_17 (xz (G_0 (xz J 0 0)) 57 0)) := by
  have z1 : ∀ b, (F_17 (xz (F_0 (xz I 0 0)) 57 0)) 1 b = 0 := fun _ => rfl
  have z2 : ∀ b, (F_17 (xz (F_0 (xz I 0 0)) 57 0)) 2 b = 0 := fun _ => rfl
  have z7 : ∀ b, (F_17 (xz (F_0 (xz I 0 0)) 57 0)) 7 b = 0 := fun _ => rfl
  have z8 : ∀ b, (F_17 (xz (F_0 (xz I 0 0)) 57 0)) 8 b = 0 := fun _ => rfl
  have z9 : ∀ b, (F_17 (xz (F_0 (xz I 0 0)) 57 0)) 9 b = 0 := fun _ => rfl
  have z10 : ∀ b, (F_17 (xz (F_0 (xz I 0 0)) 57 0)) 10 b = 0 := fun _ => rfl
  have z11 : ∀ b, (F_17 (xz (F_0 (xz I 0 0)) 57 0)) 11 b = 0 := fun _ => rfl
  have z12 : ∀ b, (F_17 (xz (F_0 (xz I 0 0)) 57 0)) 12 b = 0 := fun _ => rfl
  have z13 : ∀ b, (F_17 (xz (F_0 (xz I 0 0)) 57 0)) 13 b = 0 := fun _ => rfl
  have z14 : ∀ b, (F_17 (xz (F_0 (xz I 0 0)) 57 0)) 14 b = 0 := fun _ => rfl
  have z15 : ∀ b, (F_17 (xz (F_0 (xz I 0 0)) 57 0)) 15 b = 0 := fun _ => rfl
  have z17 : ∀ b, (F_17 (xz (F_0 (xz I 0 0)) 57 0)) 17 b = 0 := fun _ => rfl
  have z18 : ∀ b, (F_17 (xz (F_0 (xz I 0 0)) 57 0)) 18 b = 0 := fun _ => rfl
  have z20 : ∀ b, (F_17 (xz (F_0 (xz I 0 0)) 57 0)) 20 b = 0 := fun _ => rfl
  have z37 : ∀ b, (F_17 (xz (F_0 (xz I 0 0)) 57 0)) 37 b = 0 := fun _ => rfl
  have z38 : ∀ b, (F_17 (xz (F_0 (xz I 0 0)) 57 0)) 38 b = 0 := fun _ => rfl
  have z39 : ∀ b, (F_17 (xz (F_0 (xz I 0 0)) 57 0)) 39 b = 0 := fun _ => rfl
  have z40 : ∀ b, (F_17 (xz (F_0 (xz I 0 0)) 57 0)) 40 b = 0 := fun _ => rfl
  have z41 : ∀ b, (F_17 (xz (F_0 (xz I 0 0)) 57 0)) 41 b = 0 := fun _ => rfl
  have z42 : ∀ b, (F_17 (xz (F_0 (xz I 0 0)) 57 0)) 42 b = 0 := fun _ => rfl
  have z43 : ∀ b, (F_17 (xz (F_0 (xz I 0 0)) 57 0)) 43 b = 0 := fun _ => rfl
  have z57 : ∀ b, (F_17 (xz (F_0 (xz I 0 0)) 57 0)) 57 b = 0 := fun _ => rfl
  have z58 : ∀ b, (F_17 (xz (F_0 (xz I 0 0)) 57 0)) 58 b = 0 := fun _ => rfl
  have z59 : ∀ b, (F_17 (xz (F_0 (xz I 0 0)) 57 0)) 59 b = 0 := fun _ => rfl
  have z60 : ∀ b, (F_17 (xz (F_0 (xz I 0 0)) 57 0)) 60 b = 0 := fun _ => rfl
  have z61 : ∀ b, (F_17 (xz (F_0 (xz I 0 0)) 57 0)) 61 b = 0 := fun _ => rfl
  have z62 : ∀ b, (F_17 (xz (F_0 (xz I 0 0)) 57 0)) 62 b = 0 := fun _ => rfl
  have z63 : ∀ b, (F_17 (xz (F_0 (xz I 0 0)) 57 0)) 63 b = 0 := fun _ => rfl
  have z82 : ∀ b, (F_17 (xz (F_0 (xz I 0 0)) 57 0)) 82 b = 0 := fun _ => rfl
  have z83 : ∀ b, (F_17 (xz (F_0 (xz I 0 0)) 57 0)) 83 b = 0 := fun _ => rfl
  have z84 : ∀ b, (F_17 (xz (F_0 (xz I 0 0)) 57 0)) 84 b = 0 := fun _ => rfl
  have z85 : ∀ b, (F_17 (xz (F_0 (xz I 0 0)) 57 0)) 85 b = 0 := fun _ => rfl
  have z86 : ∀ b, (F_17 (xz (F_0 (xz I 0 0)) 57 0)) 86 b = 0 := fun _ => rfl
  have z16 : (F_17 (xz (F_0 (xz I 0 0)) 57 0)) 16 0 = 1 := rfl
  have z640 : (F_17 (xz (F_0 (xz I 0 0)) 57 0)) 64 0 = 0 := rfl
  have z641 : (F_17 (xz (F_0 (xz I 0 0)) 57 0)) 64 1 = 0 := rfl
  have z642 : (F_17 (xz (F_0 (xz I 0 0)) 57 0)) 64 2 = 0 := rfl
  have z643 : (F_17 (xz (F_0 (xz I 0 0)) 57 0)) 64 3 = 1 := rfl
  have zs : ∀ s : Nat, s < 6 → (F_17 (xz (F_0 (xz I 0 0)) 57 0)) (45 + 2 * s) 1 = 0 ∧ (F_17 (xz (F_0 (xz I 0 0)) 57 0)) 87 s = -1 := fun s hs => by
    match s, hs with
    | 0, _ => exact ⟨rfl, rfl⟩
    | 1, _ => exact ⟨rfl, rfl⟩
    | 2, _ => exact ⟨rfl, rfl⟩
    | 3, _ => exact ⟨rfl, rfl⟩
    | 4, _ => exact ⟨rfl, rfl⟩
    | 5, _ => exact ⟨rfl, rfl⟩
  generalize F_17 (xz (F_0 (xz I 0 0)) 57 0) = X at *
  have le0 : (0 : Int32) ≤ 0 := Int32.le_refl _
  have n0 : ∀ k : Nat, k < 120 → ¬ nI k < 0 := fun k hk => Int32.not_lt.mpr (nI_pos' (by omega))
  refine ⟨?_, ?_, ?_, ?_, ?_, ?_, ?_, ?_, ?_, ?_, ?_⟩
  · unfold ivHouse; rw [z57, z57, z1, z1]; decide
  · intro b _; rw [z58, z59, z60, z61, z7, z8, z9, z10]; decide
  · intro s _; rw [z62, z63, z11, z12]; decide
  · unfold ivInf; rw [z640, z641, z642, z643, z13, z14, z15, z16]; decide
  · unfold ivChg; rw [z57, z57, z20, z20]; exact ⟨rfl, rfl, by decide, by decide, by decide, fun k hk w => absurd w (n0 k (by omega))⟩
  · unfold ivTape; rw [z57, z17]; exact ⟨rfl, by decide, by decide, fun k hk => ⟨by rw [z18]; decide, by rw [z18]; decide, fun w => absurd w (n0 k hk)⟩⟩
  · intro j _; rw [z82, z38]
  · unfold ivImg; rw [z57, z37]; exact ⟨rfl, Or.inl rfl, fun k _ => by rw [z83, z40], fun j _ => by rw [z84, z39], by rw [z40]; decide, by rw [z40]; decide, by rw [z40]; decide, by rw [z40]; decide, by rw [z40]; decide, by rw [z40]; decide⟩
  · unfold ivCl; rw [z57, z57, z41, z41]; exact ⟨rfl, by decide, by decide, fun k _ => ⟨by rw [z85, z42], by rw [z42]; decide, by rw [z42]; decide⟩, rfl, by decide, by decide, fun k _ _ => by rw [z86, z43]⟩
  · intro s hs; exact Or.inl ⟨(zs s hs).1, (zs s hs).2⟩
  · exact Or.inl ⟨z2 3, z57 29⟩
theorem all_pairs : PPs Inv := ⟨fun _ _ h ls => pp_bill h ls, pp_bills, pp_senator, pp_mend, pp_of, pp_feed, pp_law, pp_cross, pp_reader, pp_passes, pp_quiet, pp_mean, pp_order, pp_orderWorth, pp_pack, pp_causes, pp_cause, pp_apart, pp_power, pp_leagues, pp_byTurns, pp_drawn, pp_read, pp_fed, pp_born, pp_pass, pp_led, pp_image, pp_back, pp_undo, pp_redo, pp_body, pp_act, pp_trace, pp_keep, pp_row, pp_put, pp_element, pp_shift, pp_taken, pp_count⟩
theorem whole_start {p : Program} {e : Env} {s : State} {m : MethodId} {below : List Frame} {meth : Method} {c : Code} (l : Launch) (hflags : l.flags = flags0) {b L : Nat} {xs : Nat → Int32} (hL : L ≤ 3072) (C0 : lw_At p s m meth c b L xs) : W p l e room_1 s m #[Value.ref b] below meth c s.heap [] 0 0 (lw_Z below #[Value.ref b] s) (entryFrame m ([Value.ref b] : List Value).toArray 4) := whole_open all_pairs inv0 l hL C0
set_option maxHeartbeats 4000000 in
theorem lw_walk (l : Launch) (hflags : l.flags = flags0) (b : Addr) (xs : List Int32) : MetFree l x (headSpec (Jvm.Cond.code x code maxLocals ret :: tables_1) room_1) (lw_P b xs) (fun _ _ _ _ _ => True) lw_Q := by
  refine MetFree.of_bodyS (code := code) (maxLocals := maxLocals) (ret := ret) (by decide) ?_ ?_
  · intro args s m h hn
    obtain ⟨meth, c, h1, h2, h3, h4, h5, h6, -, -⟩ := Cond.code_spec hn (atoms_spec (ws := Jvm.Cond.code x code maxLocals ret :: tables_1) h _ List.mem_cons_self)
    exact ⟨meth, c, h1, h2, h3, h4, h5, h6⟩
  · intro p e s m args below meth c s₁ B hml0 hP _
    obtain ⟨rfl, hx, hbd, hgv⟩ := hP
    obtain ⟨scr, harrAt, hlist, hof, hsmall⟩ := hx
    obtain ⟨hcb, hkn, -, -⟩ := State.arrayAt?_spec harrAt
    have hown : s.vm.findClass R_law = some m.cls := findClass_of_methodNamed B.named
    have hts0 : ∀ c ∈ (Jvm.Cond.code x code maxLocals ret :: tables_1), c.before #[Value.ref b] s = true := atoms_spec (ws := Jvm.Cond.code x code maxLocals ret :: tables_1) B.pre
    have hts : ∀ w ∈ lw_tbl, w.before #[Value.ref b] s = true := k2_hts_sels lw_privs (fun w hw => hts0 w (List.mem_cons_of_mem _ hw)) lw_privs_ok
    have hml : c.maxLocals = 4 := B.maxLocals_eq (hts0 _ List.mem_cons_self)
    have X₀ : Stand p l e room_1 s m #[Value.ref b] below meth c s₁ [] 0 0 := Stand.of_body B
    have hh0 : s₁.heap = s.heap := by rw [B.state]; rfl
    have hsz : scr.slots.size = xs.length := by rw [← Array.length_toList, hlist, List.length_map]
    have hval : ∀ j : Nat, j < xs.length → scr.slots[j]? = some (.int (xs.getD j 0)) := fun j hj => by
      rw [← Array.getElem?_toList, hlist]
      simp [hj]
    have hbl : b < s.heap.size := (Array.getElem?_eq_some_iff.mp hcb).1
    have hX : va_X b xs.length (fun j => xs.getD j 0) s s.heap := ⟨scr, hcb, hof, hkn, hsz, hval⟩
    have K : W p l e room_1 s m #[Value.ref b] below meth c s₁.heap [] 0 0 (lw_Z below #[Value.ref b] s) (entryFrame m ([Value.ref b] : List Value).toArray 4) := by
      rw [hh0]
      exact whole_start l hflags hbd ⟨B.exec, B.bytes, B.returns, hml, hown, hts, hX, hbl, B.notSynchronized, hgv⟩
    obtain ⟨t, a1, o, b1, b2, b3⟩ := K s₁ rfl X₀
    exact ⟨t, o, a1, b1, b2, b3⟩
theorem lw_pre_spec {args : Array Value} {s : State} (h : (Jvm.Cond.and given_1 narrow_1).before args s = true) (hr : rest_1_c.before args s = true) : ∃ (b : Addr) (xs : List Int32), lw_P b xs args s := by
  have hs := flat_of_before _ h
  have hq := flat_of_before _ hr
  have hc : (Cond.count 1).before args s = true := hs _ (by decide +kernel)
  have harr : (Cond.arrayOf (.arg 0) .int).before args s = true := hs _ (by decide +kernel)
  have hle : (Cond.le (.length (.arg 0)) (.int 3072)).before args s = true := hs _ (by decide +kernel)
  have hlen : (Cond.isInt (.length (.arg 0))).before args s = true := hq _ (by decide +kernel)
  have hall : (Cond.all (.arg 0) (.isInt (.elem (.arg 0) (.index 0)))).before args s = true := hq _ (by decide +kernel)
  obtain ⟨b, xs, hb, hx⟩ := State.ints_of_pre rfl harr hlen hall
  have hsm : xs.length < 2 ^ 31 := hx.choose_spec.2.2.2
  have hev : (Term.length (.arg 0)).eval args s none [] s = some (.int xs.length.toInt32) := hx.length_eval hb
  have hv := Cond.le_ints hev (show (Term.int 3072).eval args s none [] s = some (.int 3072) from rfl)
  have hd : xs.length.toInt32 ≤ 3072 := by
    simpa [Cond.before, Cond.holds, hv] using hle
  have hN : xs.length ≤ 3072 := (Int32.ofNat_le_ofNat hsm (by decide)).mp (show Int32.ofNat xs.length ≤ Int32.ofNat 3072 from hd)
  exact ⟨b, xs, Cond.one_arg hc (show args[0]? = some (.ref b) from hb), hx, hN, h⟩
theorem lw_comes (l : Launch) (hflags : l.flags = flags0) : Comes l x (Jvm.Cond.code x code maxLocals ret :: tables_1) room_1 (fun tb e args s => Calls_1 tb e args s ∧ rest_1 tb e args s ∧ Pre_1 tb e args s)
    (fun _ _ args s o t => lw_Q args s o t) := by
  intro p e ha hc hk s m args below hf hfit hheap happ hpre
  obtain ⟨b, xs, hP⟩ := lw_pre_spec hpre.2.2 hpre.2.1
  obtain ⟨k, o, h1, h2, h3, hQ⟩ := lw_walk l hflags b xs p e ha hc hk s m args below hf ((Spec.applies_iff_loose hf).mp happ).1 hP trivial
  exact ⟨k, o, h1, h2, h3, hQ⟩
theorem lw_frame {s t : State} {o : Outcome} {args : Array Value} (h : Framed s o t [] 600000 7302250) :
    Framed s o t (fieldLocs frame_1_writes args s ++ arrayLocs frame_1_arrays args s ++ staticLocs frame_1_statics s) 600000 7302250 := h
theorem lw_limb (L : Cond) (hL : ∀ (args : Array Value) (s t : State), L.after args s (.returned (some (.int 1))) t = true) :
    ArmFor flags0 classFile x code maxLocals ret World_1 tables_1 room_1 Calls_1 rest_1 Pre_1
      (fun tb e a s o t => postC L tb e a s o t ∧ Framed s o t (fieldLocs frame_1_writes a s ++ arrayLocs frame_1_arrays a s ++ staticLocs frame_1_statics s) 600000 7302250) := by
  intro l hflags _ _ p e ha hc hk s m args below hf hfit hheap happ hpre
  obtain ⟨k, o, h1, h2, h3, rfl, hF⟩ := lw_comes l hflags p e ha hc hk s m args below hf hfit hheap happ hpre
  exact ⟨k, _, h1, h2, h3, hL args s _, lw_frame hF⟩
theorem i_vc : Claimed_1_1 ∧ Claimed_1_2 := ⟨lw_limb limb_1_1 (fun args s t => by simp [limb_1_1, Cond.after, Cond.holds, Cond.value]), lw_limb limb_1_2 (fun args s t => Cond.after_iff.mpr (by
  first | (rw [show limb_1_2 = Cond.eq .result (.int 1) from rfl, Cond.eq_ints (x := 1) (y := 1) rfl rfl]; simp; done) | (simp [limb_1_2, Cond.value, Term.eval]; done)))⟩
