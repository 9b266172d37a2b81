/-! ===== the law: its loop, over what each pair of methods answers ===== -/
def PairI (Inv : xI → xJ → Prop) (Mc Mm : xM) (av : List Value) (I : xI) (J : xJ) : Prop := ∃ (v : Int32) (mid : xI → xJ → Prop), Spec 1000 (1000000, 0, 0) Mc (.ref 0 :: av) xG1 I J (fun r g i j => r = some (.int v) ∧ g = xG1 ∧ mid i j) ∧ ∀ i j, mid i j → Spec 1000 (1000000, 0, 0) Mm (.ref 57 :: av) xG1 i j (fun r g i' j' => r = some (.int v) ∧ g = xG1 ∧ Inv i' j')
def PairJ (Inv : xI → xJ → Prop) (Mc Mm : xM) (av : List Value) (I : xI) (J : xJ) : Prop := ∃ (v : Int64) (mid : xI → xJ → Prop), Spec 1000 (1000000, 0, 0) Mc (.ref 0 :: av) xG1 I J (fun r g i j => r = some (.long v) ∧ g = xG1 ∧ mid i j) ∧ ∀ i j, mid i j → Spec 1000 (1000000, 0, 0) Mm (.ref 57 :: av) xG1 i j (fun r g i' j' => r = some (.long v) ∧ g = xG1 ∧ Inv i' j')
/-- all pairs -/
def PP_bill (Inv : xI → xJ → Prop) : Prop := ∀ (I : xI) (J : xJ), Inv I J → ∀ (x0 : Int32), PairI Inv M_X11_bill M_X12_bill [.int x0] I J
def PP_bills (Inv : xI → xJ → Prop) : Prop := ∀ (I : xI) (J : xJ), Inv I J → ∀ (x0 : Int32) (x1 : Int32) (x2 : Int32), PairI Inv M_X11_bills M_X12_bills [.int x0, .int x1, .int x2] I J
def PP_senator (Inv : xI → xJ → Prop) : Prop := ∀ (I : xI) (J : xJ), Inv I J → ∀ (x0 : Int32) (x1 : Int32), PairI Inv M_X11_senator M_X12_senator [.int x0, .int x1] I J
def PP_mend (Inv : xI → xJ → Prop) : Prop := ∀ (I : xI) (J : xJ), Inv I J → ∀ (x0 : Int32) (x1 : Int32) (x2 : Int32), PairI Inv M_X11_mend M_X12_mend [.int x0, .int x1, .int x2] I J
def PP_of (Inv : xI → xJ → Prop) : Prop := ∀ (I : xI) (J : xJ), Inv I J → ∀ (x0 : Int32) (x1 : Int32), PairI Inv M_X11_of M_X12_of [.int x0, .int x1] I J
def PP_feed (Inv : xI → xJ → Prop) : Prop := ∀ (I : xI) (J : xJ), Inv I J → ∀ (x0 : Int32), PairI Inv M_X11_feed M_X12_feed [.int x0] I J
def PP_law (Inv : xI → xJ → Prop) : Prop := ∀ (I : xI) (J : xJ), Inv I J → PairI Inv M_X11_law M_X12_law [] I J
def PP_cross (Inv : xI → xJ → Prop) : Prop := ∀ (I : xI) (J : xJ), Inv I J → ∀ (x0 : Int32), PairI Inv M_X11_cross M_X12_cross [.int x0] I J
def PP_reader (Inv : xI → xJ → Prop) : Prop := ∀ (I : xI) (J : xJ), Inv I J → ∀ (x0 : Int32), PairI Inv M_X11_reader M_X12_reader [.int x0] I J
def PP_passes (Inv : xI → xJ → Prop) : Prop := ∀ (I : xI) (J : xJ), Inv I J → ∀ (x0 : Int32) (x1 : Int32) (x2 : Int32), PairJ Inv M_X11_passes M_X12_passes [.int x0, .int x1, .int x2] I J
def PP_quiet (Inv : xI → xJ → Prop) : Prop := ∀ (I : xI) (J : xJ), Inv I J → ∀ (x0 : Int32) (x1 : Int32) (x2 : Int32) (x3 : Int32), PairJ Inv M_X11_quiet M_X12_quiet [.int x0, .int x1, .int x2, .int x3] I J
def PP_mean (Inv : xI → xJ → Prop) : Prop := ∀ (I : xI) (J : xJ), Inv I J → ∀ (x0 : Int32) (x1 : Int32) (x2 : Int32), PairJ Inv M_X11_mean M_X12_mean [.int x0, .int x1, .int x2] I J
def PP_order (Inv : xI → xJ → Prop) : Prop := ∀ (I : xI) (J : xJ), Inv I J → ∀ (x0 : Int32) (x1 : Int32) (x2 : Int32), PairI Inv M_X11_order M_X12_order [.int x0, .int x1, .int x2] I J
def PP_orderWorth (Inv : xI → xJ → Prop) : Prop := ∀ (I : xI) (J : xJ), Inv I J → ∀ (x0 : Int32) (x1 : Int32) (x2 : Int32), PairJ Inv M_X11_orderWorth M_X12_orderWorth [.int x0, .int x1, .int x2] I J
def PP_pack (Inv : xI → xJ → Prop) : Prop := ∀ (I : xI) (J : xJ), Inv I J → ∀ (x0 : Int32) (x1 : Int32), PairI Inv M_X11_pack M_X12_pack [.int x0, .int x1] I J
def PP_causes (Inv : xI → xJ → Prop) : Prop := ∀ (I : xI) (J : xJ), Inv I J → ∀ (x0 : Int32) (x1 : Int32), PairI Inv M_X11_causes M_X12_causes [.int x0, .int x1] I J
def PP_cause (Inv : xI → xJ → Prop) : Prop := ∀ (I : xI) (J : xJ), Inv I J → ∀ (x0 : Int32) (x1 : Int32) (x2 : Int32), PairJ Inv M_X11_cause M_X12_cause [.int x0, .int x1, .int x2] I J
def PP_apart (Inv : xI → xJ → Prop) : Prop := ∀ (I : xI) (J : xJ), Inv I J → ∀ (x0 : Int32) (x1 : Int32), PairI Inv M_X11_apart M_X12_apart [.int x0, .int x1] I J
def PP_power (Inv : xI → xJ → Prop) : Prop := ∀ (I : xI) (J : xJ), Inv I J → ∀ (x0 : Int32) (x1 : Int32), PairJ Inv M_X11_power M_X12_power [.int x0, .int x1] I J
def PP_leagues (Inv : xI → xJ → Prop) : Prop := ∀ (I : xI) (J : xJ), Inv I J → ∀ (x0 : Int32), PairI Inv M_X11_leagues M_X12_leagues [.int x0] I J
def PP_byTurns (Inv : xI → xJ → Prop) : Prop := ∀ (I : xI) (J : xJ), Inv I J → ∀ (x0 : Int32) (x1 : Int32) (x2 : Int32), PairI Inv M_X11_byTurns M_X12_byTurns [.int x0, .int x1, .int x2] I J
def PP_drawn (Inv : xI → xJ → Prop) : Prop := ∀ (I : xI) (J : xJ), Inv I J → ∀ (x0 : Int32) (x1 : Int32) (x2 : Int32) (x3 : Int32), PairI Inv M_X11_drawn M_X12_drawn [.int x0, .int x1, .int x2, .int x3] I J
def PP_read (Inv : xI → xJ → Prop) : Prop := ∀ (I : xI) (J : xJ), Inv I J → ∀ (x0 : Int32), PairI Inv M_X11_read M_X12_read [.int x0] I J
def PP_fed (Inv : xI → xJ → Prop) : Prop := ∀ (I : xI) (J : xJ), Inv I J → PairI Inv M_X11_fed M_X12_fed [] I J
def PP_born (Inv : xI → xJ → Prop) : Prop := ∀ (I : xI) (J : xJ), Inv I J → ∀ (x0 : Int32) (x1 : Int32), PairI Inv M_X11_born M_X12_born [.int x0, .int x1] I J
def PP_pass (Inv : xI → xJ → Prop) : Prop := ∀ (I : xI) (J : xJ), Inv I J → ∀ (x0 : Int32), PairI Inv M_X11_pass M_X12_pass [.int x0] I J
def PP_led (Inv : xI → xJ → Prop) : Prop := ∀ (I : xI) (J : xJ), Inv I J → ∀ (x0 : Int32), PairI Inv M_X11_led M_X12_led [.int x0] I J
def PP_image (Inv : xI → xJ → Prop) : Prop := ∀ (I : xI) (J : xJ), Inv I J → PairI Inv M_X11_image M_X12_image [] I J
def PP_back (Inv : xI → xJ → Prop) : Prop := ∀ (I : xI) (J : xJ), Inv I J → PairI Inv M_X11_back M_X12_back [] I J
def PP_undo (Inv : xI → xJ → Prop) : Prop := ∀ (I : xI) (J : xJ), Inv I J → PairI Inv M_X11_undo M_X12_undo [] I J
def PP_redo (Inv : xI → xJ → Prop) : Prop := ∀ (I : xI) (J : xJ), Inv I J → PairI Inv M_X11_redo M_X12_redo [] I J
def PP_body (Inv : xI → xJ → Prop) : Prop := ∀ (I : xI) (J : xJ), Inv I J → ∀ (x0 : Int32), PairI Inv M_X11_body M_X12_body [.int x0] I J
def PP_act (Inv : xI → xJ → Prop) : Prop := ∀ (I : xI) (J : xJ), Inv I J → ∀ (x0 : Int32) (x1 : Int32) (x2 : Int32), PairI Inv M_X11_act M_X12_act [.int x0, .int x1, .int x2] I J
def PP_trace (Inv : xI → xJ → Prop) : Prop := ∀ (I : xI) (J : xJ), Inv I J → ∀ (x0 : Int32), PairI Inv M_X11_trace M_X12_trace [.int x0] I J
def PP_keep (Inv : xI → xJ → Prop) : Prop := ∀ (I : xI) (J : xJ), Inv I J → ∀ (x0 : Int32) (x1 : Int32), PairI Inv M_X11_keep M_X12_keep [.int x0, .int x1] I J
def PP_row (Inv : xI → xJ → Prop) : Prop := ∀ (I : xI) (J : xJ), Inv I J → ∀ (x0 : Int32) (x1 : Int32) (x2 : Int32), PairI Inv M_X11_row M_X12_row [.int x0, .int x1, .int x2] I J
def PP_put (Inv : xI → xJ → Prop) : Prop := ∀ (I : xI) (J : xJ), Inv I J → ∀ (x0 : Int32) (x1 : Int32) (x2 : Int64), PairI Inv M_X11_put M_X12_put [.int x0, .int x1, .long x2] I J
def PP_element (Inv : xI → xJ → Prop) : Prop := ∀ (I : xI) (J : xJ), Inv I J → ∀ (x0 : Int32) (x1 : Int32), PairJ Inv M_X11_element M_X12_element [.int x0, .int x1] I J
def PP_shift (Inv : xI → xJ → Prop) : Prop := ∀ (I : xI) (J : xJ), Inv I J → ∀ (x0 : Int32) (x1 : Int32) (x2 : Int32) (x3 : Int32) (x4 : Int32), PairI Inv M_X11_shift M_X12_shift [.int x0, .int x1, .int x2, .int x3, .int x4] I J
def PP_taken (Inv : xI → xJ → Prop) : Prop := ∀ (I : xI) (J : xJ), Inv I J → ∀ (x0 : Int32) (x1 : Int32), PairI Inv M_X11_taken M_X12_taken [.int x0, .int x1] I J
def PP_count (Inv : xI → xJ → Prop) : Prop := ∀ (I : xI) (J : xJ), Inv I J → ∀ (x0 : Int32), PairI Inv M_X11_count M_X12_count [.int x0] I J
def PPs (Inv : xI → xJ → Prop) : Prop := PP_bill Inv ∧ PP_bills Inv ∧ PP_senator Inv ∧ PP_mend Inv ∧ PP_of Inv ∧ PP_feed Inv ∧ PP_law Inv ∧ PP_cross Inv ∧ PP_reader Inv ∧ PP_passes Inv ∧ PP_quiet Inv ∧ PP_mean Inv ∧ PP_order Inv ∧ PP_orderWorth Inv ∧ PP_pack Inv ∧ PP_causes Inv ∧ PP_cause Inv ∧ PP_apart Inv ∧ PP_power Inv ∧ PP_leagues Inv ∧ PP_byTurns Inv ∧ PP_drawn Inv ∧ PP_read Inv ∧ PP_fed Inv ∧ PP_born Inv ∧ PP_pass Inv ∧ PP_led Inv ∧ PP_image Inv ∧ PP_back Inv ∧ PP_undo Inv ∧ PP_redo Inv ∧ PP_body Inv ∧ PP_act Inv ∧ PP_trace Inv ∧ PP_keep Inv ∧ PP_row Inv ∧ PP_put Inv ∧ PP_element Inv ∧ PP_shift Inv ∧ PP_taken Inv ∧ PP_count Inv
theorem law_len {Ls i : Nat} (h : Ls ≤ 3072) (hi : i ≤ Ls) (hc : ¬ Int32.ofNat Ls - 6 < nI i) : i + 5 < Ls := by
  have e0 : (Int32.ofNat Ls).toInt = (Ls : Int) := nI_toInt (by omega)
  have e1 : (Int32.ofNat Ls - 6).toInt = (Ls : Int) - 6 := by
    rw [Int32.toInt_sub, e0, show (6 : Int32).toInt = 6 by decide, Int.bmod_def]
    omega
  have e2 : (nI i).toInt = (i : Int) := nI_toInt (by omega)
  rw [Int32.lt_iff_toInt_lt, e1, e2] at hc
  omega
theorem law_in {Ls i : Nat} (h : Ls ≤ 3072) (hi : i + 5 < Ls) (c : Nat) (hc : c ≤ 5) : vp_in (nI i + nI c) Ls := by
  rw [nI_add]
  exact vp_in_nI (by omega) (by omega)
set_option maxHeartbeats 4000000 in
theorem law_loop {Inv : xI → xJ → Prop} (hPP : PPs Inv) {Ls : Nat} {xs : Nat → Int32} (hLs : Ls ≤ 3072) : ∀ (n i : Nat), i ≤ Ls → Ls < i + n → ∀ (I : xI) (J : xJ), Inv I J → WP 2000 (0, 0, 0) (some (Ls, xs)) M_L_law (fun r _ _ _ => r = some (.int 1)) 18 [some (.ref 2000000), some (.ref 0), some (.ref 57), some (.int (nI i))] [] xG1 I J := by
  obtain ⟨p_bill, p_bills, p_senator, p_mend, p_of, p_feed, p_law, p_cross, p_reader, p_passes, p_quiet, p_mean, p_order, p_orderWorth, p_pack, p_causes, p_cause, p_apart, p_power, p_leagues, p_byTurns, p_drawn, p_read, p_fed, p_born, p_pass, p_led, p_image, p_back, p_undo, p_redo, p_body, p_act, p_trace, p_keep, p_row, p_put, p_element, p_shift, p_taken, p_count⟩ := hPP
  intro n
  induction n with
  | zero => intro i h1 h2; omega
  | succ n ih =>
    intro i hi hn I J hI
    refine iL_law_18 (iL_law_19 (iL_law_20 (iL_law_21 (iL_law_23 (iL_law_24 (fun h24 => ?_) (fun h24 => ?_))))))
    · refine iL_law_1558 (iL_law_1559 ?_)
      rfl
    have hlt := law_len hLs hi h24
    have v0 : vp_in (nI i) Ls := vp_in_nI (by omega) (by omega)
    have v1 : vp_in (nI i + 1) Ls := law_in hLs hlt 1 (by decide)
    have v2 : vp_in (nI i + 2) Ls := law_in hLs hlt 2 (by decide)
    have v3 : vp_in (nI i + 3) Ls := law_in hLs hlt 3 (by decide)
    have v4 : vp_in (nI i + 4) Ls := law_in hLs hlt 4 (by decide)
    have v5 : vp_in (nI i + 5) Ls := law_in hLs hlt 5 (by decide)
    have hnext : ∀ (I : xI) (J : xJ), Inv I J → WP 2000 (0, 0, 0) (some (Ls, xs)) M_L_law (fun r _ _ _ => r = some (.int 1)) 1552 [some (.ref 2000000), some (.ref 0), some (.ref 57), some (.int (nI i))] [] xG1 I J := by
      intro I J hI
      refine iL_law_1552 (iL_law_1555 ?_)
      have e : nI i + (6) = nI (i + 6) := nI_add i 6
      rw [e]
      exact ih (i + 6) (by omega) (by omega) I J hI
    refine iL_law_27 (iL_law_28 (iL_law_29 v0 (iL_law_30 (iL_law_32 (iL_law_33 (fun h33 => ?_) (fun h33 => ?_) (fun h33 => ?_) (fun h33 => ?_) (fun h33 => ?_) (fun h33 => ?_) (fun h33 => ?_) (fun h33 => ?_) (fun h33 => ?_) (fun h33 => ?_) (fun h33 => ?_) (fun h33 => ?_) (fun h33 => ?_) (fun h33 => ?_) (fun h33 => ?_) (fun h33 => ?_) (fun h33 => ?_) (fun h33 => ?_) (fun h33 => ?_) (fun h33 => ?_) (fun h33 => ?_) (fun h33 => ?_) (fun h33 => ?_) (fun h33 => ?_) (fun h33 => ?_) (fun h33 => ?_) (fun h33 => ?_) (fun h33 => ?_) (fun h33 => ?_) (fun h33 => ?_) (fun h33 => ?_) (fun h33 => ?_) (fun h33 => ?_) (fun h33 => ?_) (fun h33 => ?_) (fun h33 => ?_) (fun h33 => ?_) (fun h33 => ?_) (fun h33 => ?_) (fun h33 => ?_) (fun h33 => ?_) (fun _ _ _ _ _ _ _ _ _ _ _ _ _ _ _ _ _ _ _ _ _ _ _ _ _ _ _ _ _ _ _ _ _ _ _ _ _ _ _ _ _ => ?_))))))
    · obtain ⟨v, mid, hc, hm⟩ := p_bill I J hI (xs (nI i + (1)).toNatClampNeg)
      refine iL_law_212 (iL_law_213 (iL_law_214 (iL_law_215 (iL_law_216 (iL_law_217 v1 (jL_law_218 (by decide) hc (fun r218 g218 I218 J218 hq => ?_)))))))
      obtain ⟨rfl, rfl, hq⟩ := hq
      refine iL_law_221 (iL_law_222 (iL_law_223 (iL_law_224 (iL_law_225 (iL_law_226 v1 (jL_law_227 (by decide) (hm _ _ hq) (fun r227 g227 I227 J227 hq => ?_)))))))
      obtain ⟨rfl, rfl, hq2⟩ := hq
      refine iL_law_230 (fun h230 => ?_) (fun h230 => absurd (rfl) (by first | exact h230 | exact fun q => q h230))
      exact hnext _ _ hq2
    · obtain ⟨v, mid, hc, hm⟩ := p_bills I J hI (xs (nI i + (1)).toNatClampNeg) (xs (nI i + (2)).toNatClampNeg) (xs (nI i + (3)).toNatClampNeg)
      refine iL_law_235 (iL_law_236 (iL_law_237 (iL_law_238 (iL_law_239 (iL_law_240 v1 (iL_law_241 (iL_law_242 (iL_law_243 (iL_law_244 (iL_law_245 v2 (iL_law_246 (iL_law_247 (iL_law_248 (iL_law_249 (iL_law_250 v3 (jL_law_251 (by decide) hc (fun r251 g251 I251 J251 hq => ?_)))))))))))))))))
      obtain ⟨rfl, rfl, hq⟩ := hq
      refine iL_law_254 (iL_law_255 (iL_law_256 (iL_law_257 (iL_law_258 (iL_law_259 v1 (iL_law_260 (iL_law_261 (iL_law_262 (iL_law_263 (iL_law_264 v2 (iL_law_265 (iL_law_266 (iL_law_267 (iL_law_268 (iL_law_269 v3 (jL_law_270 (by decide) (hm _ _ hq) (fun r270 g270 I270 J270 hq => ?_)))))))))))))))))
      obtain ⟨rfl, rfl, hq2⟩ := hq
      refine iL_law_273 (fun h273 => ?_) (fun h273 => absurd (rfl) (by first | exact h273 | exact fun q => q h273))
      exact hnext _ _ hq2
    · obtain ⟨v, mid, hc, hm⟩ := p_senator I J hI (xs (nI i + (1)).toNatClampNeg) (xs (nI i + (2)).toNatClampNeg)
      refine iL_law_278 (iL_law_279 (iL_law_280 (iL_law_281 (iL_law_282 (iL_law_283 v1 (iL_law_284 (iL_law_285 (iL_law_286 (iL_law_287 (iL_law_288 v2 (jL_law_289 (by decide) hc (fun r289 g289 I289 J289 hq => ?_))))))))))))
      obtain ⟨rfl, rfl, hq⟩ := hq
      refine iL_law_292 (iL_law_293 (iL_law_294 (iL_law_295 (iL_law_296 (iL_law_297 v1 (iL_law_298 (iL_law_299 (iL_law_300 (iL_law_301 (iL_law_302 v2 (jL_law_303 (by decide) (hm _ _ hq) (fun r303 g303 I303 J303 hq => ?_))))))))))))
      obtain ⟨rfl, rfl, hq2⟩ := hq
      refine iL_law_306 (fun h306 => ?_) (fun h306 => absurd (rfl) (by first | exact h306 | exact fun q => q h306))
      exact hnext _ _ hq2
    · obtain ⟨v, mid, hc, hm⟩ := p_mend I J hI (xs (nI i + (1)).toNatClampNeg) (xs (nI i + (2)).toNatClampNeg) (xs (nI i + (3)).toNatClampNeg)
      refine iL_law_311 (iL_law_312 (iL_law_313 (iL_law_314 (iL_law_315 (iL_law_316 v1 (iL_law_317 (iL_law_318 (iL_law_319 (iL_law_320 (iL_law_321 v2 (iL_law_322 (iL_law_323 (iL_law_324 (iL_law_325 (iL_law_326 v3 (jL_law_327 (by decide) hc (fun r327 g327 I327 J327 hq => ?_)))))))))))))))))
      obtain ⟨rfl, rfl, hq⟩ := hq
      refine iL_law_330 (iL_law_331 (iL_law_332 (iL_law_333 (iL_law_334 (iL_law_335 v1 (iL_law_336 (iL_law_337 (iL_law_338 (iL_law_339 (iL_law_340 v2 (iL_law_341 (iL_law_342 (iL_law_343 (iL_law_344 (iL_law_345 v3 (jL_law_346 (by decide) (hm _ _ hq) (fun r346 g346 I346 J346 hq => ?_)))))))))))))))))
      obtain ⟨rfl, rfl, hq2⟩ := hq
      refine iL_law_349 (fun h349 => ?_) (fun h349 => absurd (rfl) (by first | exact h349 | exact fun q => q h349))
      exact hnext _ _ hq2
    · obtain ⟨v, mid, hc, hm⟩ := p_of I J hI (xs (nI i + (1)).toNatClampNeg) (xs (nI i + (2)).toNatClampNeg)
      refine iL_law_354 (iL_law_355 (iL_law_356 (iL_law_357 (iL_law_358 (iL_law_359 v1 (iL_law_360 (iL_law_361 (iL_law_362 (iL_law_363 (iL_law_364 v2 (jL_law_365 (by decide) hc (fun r365 g365 I365 J365 hq => ?_))))))))))))
      obtain ⟨rfl, rfl, hq⟩ := hq
      refine iL_law_368 (iL_law_369 (iL_law_370 (iL_law_371 (iL_law_372 (iL_law_373 v1 (iL_law_374 (iL_law_375 (iL_law_376 (iL_law_377 (iL_law_378 v2 (jL_law_379 (by decide) (hm _ _ hq) (fun r379 g379 I379 J379 hq => ?_))))))))))))
      obtain ⟨rfl, rfl, hq2⟩ := hq
      refine iL_law_382 (fun h382 => ?_) (fun h382 => absurd (rfl) (by first | exact h382 | exact fun q => q h382))
      exact hnext _ _ hq2
    · obtain ⟨v, mid, hc, hm⟩ := p_feed I J hI (xs (nI i + (1)).toNatClampNeg)
      refine iL_law_387 (iL_law_388 (iL_law_389 (iL_law_390 (iL_law_391 (iL_law_392 v1 (jL_law_393 (by decide) hc (fun r393 g393 I393 J393 hq => ?_)))))))
      obtain ⟨rfl, rfl, hq⟩ := hq
      refine iL_law_396 (iL_law_397 (iL_law_398 (iL_law_399 (iL_law_400 (iL_law_401 v1 (jL_law_402 (by decide) (hm _ _ hq) (fun r402 g402 I402 J402 hq => ?_)))))))
      obtain ⟨rfl, rfl, hq2⟩ := hq
      refine iL_law_405 (fun h405 => ?_) (fun h405 => absurd (rfl) (by first | exact h405 | exact fun q => q h405))
      exact hnext _ _ hq2
    · obtain ⟨v, mid, hc, hm⟩ := p_law I J hI
      refine iL_law_410 (jL_law_411 (by decide) hc (fun r411 g411 I411 J411 hq => ?_))
      obtain ⟨rfl, rfl, hq⟩ := hq
      refine iL_law_414 (jL_law_415 (by decide) (hm _ _ hq) (fun r415 g415 I415 J415 hq => ?_))
      obtain ⟨rfl, rfl, hq2⟩ := hq
      refine iL_law_418 (fun h418 => ?_) (fun h418 => absurd (rfl) (by first | exact h418 | exact fun q => q h418))
      exact hnext _ _ hq2
    · obtain ⟨v, mid, hc, hm⟩ := p_cross I J hI (xs (nI i + (1)).toNatClampNeg)
      refine iL_law_423 (iL_law_424 (iL_law_425 (iL_law_426 (iL_law_427 (iL_law_428 v1 (jL_law_429 (by decide) hc (fun r429 g429 I429 J429 hq => ?_)))))))
      obtain ⟨rfl, rfl, hq⟩ := hq
      refine iL_law_432 (iL_law_433 (iL_law_434 (iL_law_435 (iL_law_436 (iL_law_437 v1 (jL_law_438 (by decide) (hm _ _ hq) (fun r438 g438 I438 J438 hq => ?_)))))))
      obtain ⟨rfl, rfl, hq2⟩ := hq
      refine iL_law_441 (fun h441 => ?_) (fun h441 => absurd (rfl) (by first | exact h441 | exact fun q => q h441))
      exact hnext _ _ hq2
    · obtain ⟨v, mid, hc, hm⟩ := p_reader I J hI (xs (nI i + (1)).toNatClampNeg)
      refine iL_law_446 (iL_law_447 (iL_law_448 (iL_law_449 (iL_law_450 (iL_law_451 v1 (jL_law_452 (by decide) hc (fun r452 g452 I452 J452 hq => ?_)))))))
      obtain ⟨rfl, rfl, hq⟩ := hq
      refine iL_law_455 (iL_law_456 (iL_law_457 (iL_law_458 (iL_law_459 (iL_law_460 v1 (jL_law_461 (by decide) (hm _ _ hq) (fun r461 g461 I461 J461 hq => ?_)))))))
      obtain ⟨rfl, rfl, hq2⟩ := hq
      refine iL_law_464 (fun h464 => ?_) (fun h464 => absurd (rfl) (by first | exact h464 | exact fun q => q h464))
      exact hnext _ _ hq2
    · obtain ⟨v, mid, hc, hm⟩ := p_passes I J hI (xs (nI i + (1)).toNatClampNeg) (xs (nI i + (2)).toNatClampNeg) (xs (nI i + (3)).toNatClampNeg)
      refine iL_law_469 (iL_law_470 (iL_law_471 (iL_law_472 (iL_law_473 (iL_law_474 v1 (iL_law_475 (iL_law_476 (iL_law_477 (iL_law_478 (iL_law_479 v2 (iL_law_480 (iL_law_481 (iL_law_482 (iL_law_483 (iL_law_484 v3 (jL_law_485 (by decide) hc (fun r485 g485 I485 J485 hq => ?_)))))))))))))))))
      obtain ⟨rfl, rfl, hq⟩ := hq
      refine iL_law_488 (iL_law_489 (iL_law_490 (iL_law_491 (iL_law_492 (iL_law_493 v1 (iL_law_494 (iL_law_495 (iL_law_496 (iL_law_497 (iL_law_498 v2 (iL_law_499 (iL_law_500 (iL_law_501 (iL_law_502 (iL_law_503 v3 (jL_law_504 (by decide) (hm _ _ hq) (fun r504 g504 I504 J504 hq => ?_)))))))))))))))))
      obtain ⟨rfl, rfl, hq2⟩ := hq
      refine iL_law_507 (iL_law_508 (fun h508 => ?_) (fun h508 => absurd (lgc_self v) (by first | exact h508 | exact fun q => q h508)))
      exact hnext _ _ hq2
    · obtain ⟨v, mid, hc, hm⟩ := p_quiet I J hI (xs (nI i + (1)).toNatClampNeg) (xs (nI i + (2)).toNatClampNeg) (xs (nI i + (3)).toNatClampNeg) (xs (nI i + (4)).toNatClampNeg)
      refine iL_law_513 (iL_law_514 (iL_law_515 (iL_law_516 (iL_law_517 (iL_law_518 v1 (iL_law_519 (iL_law_520 (iL_law_521 (iL_law_522 (iL_law_523 v2 (iL_law_524 (iL_law_525 (iL_law_526 (iL_law_527 (iL_law_528 v3 (iL_law_529 (iL_law_530 (iL_law_531 (iL_law_532 (iL_law_533 v4 (jL_law_534 (by decide) hc (fun r534 g534 I534 J534 hq => ?_))))))))))))))))))))))
      obtain ⟨rfl, rfl, hq⟩ := hq
      refine iL_law_537 (iL_law_538 (iL_law_539 (iL_law_540 (iL_law_541 (iL_law_542 v1 (iL_law_543 (iL_law_544 (iL_law_545 (iL_law_546 (iL_law_547 v2 (iL_law_548 (iL_law_549 (iL_law_550 (iL_law_551 (iL_law_552 v3 (iL_law_553 (iL_law_554 (iL_law_555 (iL_law_556 (iL_law_557 v4 (jL_law_558 (by decide) (hm _ _ hq) (fun r558 g558 I558 J558 hq => ?_))))))))))))))))))))))
      obtain ⟨rfl, rfl, hq2⟩ := hq
      refine iL_law_561 (iL_law_562 (fun h562 => ?_) (fun h562 => absurd (lgc_self v) (by first | exact h562 | exact fun q => q h562)))
      exact hnext _ _ hq2
    · obtain ⟨v, mid, hc, hm⟩ := p_mean I J hI (xs (nI i + (1)).toNatClampNeg) (xs (nI i + (2)).toNatClampNeg) (xs (nI i + (3)).toNatClampNeg)
      refine iL_law_567 (iL_law_568 (iL_law_569 (iL_law_570 (iL_law_571 (iL_law_572 v1 (iL_law_573 (iL_law_574 (iL_law_575 (iL_law_576 (iL_law_577 v2 (iL_law_578 (iL_law_579 (iL_law_580 (iL_law_581 (iL_law_582 v3 (jL_law_583 (by decide) hc (fun r583 g583 I583 J583 hq => ?_)))))))))))))))))
      obtain ⟨rfl, rfl, hq⟩ := hq
      refine iL_law_586 (iL_law_587 (iL_law_588 (iL_law_589 (iL_law_590 (iL_law_591 v1 (iL_law_592 (iL_law_593 (iL_law_594 (iL_law_595 (iL_law_596 v2 (iL_law_597 (iL_law_598 (iL_law_599 (iL_law_600 (iL_law_601 v3 (jL_law_602 (by decide) (hm _ _ hq) (fun r602 g602 I602 J602 hq => ?_)))))))))))))))))
      obtain ⟨rfl, rfl, hq2⟩ := hq
      refine iL_law_605 (iL_law_606 (fun h606 => ?_) (fun h606 => absurd (lgc_self v) (by first | exact h606 | exact fun q => q h606)))
      exact hnext _ _ hq2
    · obtain ⟨v, mid, hc, hm⟩ := p_order I J hI (xs (nI i + (1)).toNatClampNeg) (xs (nI i + (2)).toNatClampNeg) (xs (nI i + (3)).toNatClampNeg)
      refine iL_law_611 (iL_law_612 (iL_law_613 (iL_law_614 (iL_law_615 (iL_law_616 v1 (iL_law_617 (iL_law_618 (iL_law_619 (iL_law_620 (iL_law_621 v2 (iL_law_622 (iL_law_623 (iL_law_624 (iL_law_625 (iL_law_626 v3 (jL_law_627 (by decide) hc (fun r627 g627 I627 J627 hq => ?_)))))))))))))))))
      obtain ⟨rfl, rfl, hq⟩ := hq
      refine iL_law_630 (iL_law_631 (iL_law_632 (iL_law_633 (iL_law_634 (iL_law_635 v1 (iL_law_636 (iL_law_637 (iL_law_638 (iL_law_639 (iL_law_640 v2 (iL_law_641 (iL_law_642 (iL_law_643 (iL_law_644 (iL_law_645 v3 (jL_law_646 (by decide) (hm _ _ hq) (fun r646 g646 I646 J646 hq => ?_)))))))))))))))))
      obtain ⟨rfl, rfl, hq2⟩ := hq
      refine iL_law_649 (fun h649 => ?_) (fun h649 => absurd (rfl) (by first | exact h649 | exact fun q => q h649))
      exact hnext _ _ hq2
    · obtain ⟨v, mid, hc, hm⟩ := p_orderWorth I J hI (xs (nI i + (1)).toNatClampNeg) (xs (nI i + (2)).toNatClampNeg) (xs (nI i + (3)).toNatClampNeg)
      refine iL_law_654 (iL_law_655 (iL_law_656 (iL_law_657 (iL_law_658 (iL_law_659 v1 (iL_law_660 (iL_law_661 (iL_law_662 (iL_law_663 (iL_law_664 v2 (iL_law_665 (iL_law_666 (iL_law_667 (iL_law_668 (iL_law_669 v3 (jL_law_670 (by decide) hc (fun r670 g670 I670 J670 hq => ?_)))))))))))))))))
      obtain ⟨rfl, rfl, hq⟩ := hq
      refine iL_law_673 (iL_law_674 (iL_law_675 (iL_law_676 (iL_law_677 (iL_law_678 v1 (iL_law_679 (iL_law_680 (iL_law_681 (iL_law_682 (iL_law_683 v2 (iL_law_684 (iL_law_685 (iL_law_686 (iL_law_687 (iL_law_688 v3 (jL_law_689 (by decide) (hm _ _ hq) (fun r689 g689 I689 J689 hq => ?_)))))))))))))))))
      obtain ⟨rfl, rfl, hq2⟩ := hq
      refine iL_law_692 (iL_law_693 (fun h693 => ?_) (fun h693 => absurd (lgc_self v) (by first | exact h693 | exact fun q => q h693)))
      exact hnext _ _ hq2
    · obtain ⟨v, mid, hc, hm⟩ := p_pack I J hI (xs (nI i + (1)).toNatClampNeg) (xs (nI i + (2)).toNatClampNeg)
      refine iL_law_698 (iL_law_699 (iL_law_700 (iL_law_701 (iL_law_702 (iL_law_703 v1 (iL_law_704 (iL_law_705 (iL_law_706 (iL_law_707 (iL_law_708 v2 (jL_law_709 (by decide) hc (fun r709 g709 I709 J709 hq => ?_))))))))))))
      obtain ⟨rfl, rfl, hq⟩ := hq
      refine iL_law_712 (iL_law_713 (iL_law_714 (iL_law_715 (iL_law_716 (iL_law_717 v1 (iL_law_718 (iL_law_719 (iL_law_720 (iL_law_721 (iL_law_722 v2 (jL_law_723 (by decide) (hm _ _ hq) (fun r723 g723 I723 J723 hq => ?_))))))))))))
      obtain ⟨rfl, rfl, hq2⟩ := hq
      refine iL_law_726 (fun h726 => ?_) (fun h726 => absurd (rfl) (by first | exact h726 | exact fun q => q h726))
      exact hnext _ _ hq2
    · obtain ⟨v, mid, hc, hm⟩ := p_causes I J hI (xs (nI i + (1)).toNatClampNeg) (xs (nI i + (2)).toNatClampNeg)
      refine iL_law_731 (iL_law_732 (iL_law_733 (iL_law_734 (iL_law_735 (iL_law_736 v1 (iL_law_737 (iL_law_738 (iL_law_739 (iL_law_740 (iL_law_741 v2 (jL_law_742 (by decide) hc (fun r742 g742 I742 J742 hq => ?_))))))))))))
      obtain ⟨rfl, rfl, hq⟩ := hq
      refine iL_law_745 (iL_law_746 (iL_law_747 (iL_law_748 (iL_law_749 (iL_law_750 v1 (iL_law_751 (iL_law_752 (iL_law_753 (iL_law_754 (iL_law_755 v2 (jL_law_756 (by decide) (hm _ _ hq) (fun r756 g756 I756 J756 hq => ?_))))))))))))
      obtain ⟨rfl, rfl, hq2⟩ := hq
      refine iL_law_759 (fun h759 => ?_) (fun h759 => absurd (rfl) (by first | exact h759 | exact fun q => q h759))
      exact hnext _ _ hq2
    · obtain ⟨v, mid, hc, hm⟩ := p_cause I J hI (xs (nI i + (1)).toNatClampNeg) (xs (nI i + (2)).toNatClampNeg) (xs (nI i + (3)).toNatClampNeg)
      refine iL_law_764 (iL_law_765 (iL_law_766 (iL_law_767 (iL_law_768 (iL_law_769 v1 (iL_law_770 (iL_law_771 (iL_law_772 (iL_law_773 (iL_law_774 v2 (iL_law_775 (iL_law_776 (iL_law_777 (iL_law_778 (iL_law_779 v3 (jL_law_780 (by decide) hc (fun r780 g780 I780 J780 hq => ?_)))))))))))))))))
      obtain ⟨rfl, rfl, hq⟩ := hq
      refine iL_law_783 (iL_law_784 (iL_law_785 (iL_law_786 (iL_law_787 (iL_law_788 v1 (iL_law_789 (iL_law_790 (iL_law_791 (iL_law_792 (iL_law_793 v2 (iL_law_794 (iL_law_795 (iL_law_796 (iL_law_797 (iL_law_798 v3 (jL_law_799 (by decide) (hm _ _ hq) (fun r799 g799 I799 J799 hq => ?_)))))))))))))))))
      obtain ⟨rfl, rfl, hq2⟩ := hq
      refine iL_law_802 (iL_law_803 (fun h803 => ?_) (fun h803 => absurd (lgc_self v) (by first | exact h803 | exact fun q => q h803)))
      exact hnext _ _ hq2
    · obtain ⟨v, mid, hc, hm⟩ := p_apart I J hI (xs (nI i + (1)).toNatClampNeg) (xs (nI i + (2)).toNatClampNeg)
      refine iL_law_808 (iL_law_809 (iL_law_810 (iL_law_811 (iL_law_812 (iL_law_813 v1 (iL_law_814 (iL_law_815 (iL_law_816 (iL_law_817 (iL_law_818 v2 (jL_law_819 (by decide) hc (fun r819 g819 I819 J819 hq => ?_))))))))))))
      obtain ⟨rfl, rfl, hq⟩ := hq
      refine iL_law_822 (iL_law_823 (iL_law_824 (iL_law_825 (iL_law_826 (iL_law_827 v1 (iL_law_828 (iL_law_829 (iL_law_830 (iL_law_831 (iL_law_832 v2 (jL_law_833 (by decide) (hm _ _ hq) (fun r833 g833 I833 J833 hq => ?_))))))))))))
      obtain ⟨rfl, rfl, hq2⟩ := hq
      refine iL_law_836 (fun h836 => ?_) (fun h836 => absurd (rfl) (by first | exact h836 | exact fun q => q h836))
      exact hnext _ _ hq2
    · obtain ⟨v, mid, hc, hm⟩ := p_power I J hI (xs (nI i + (1)).toNatClampNeg) (xs (nI i + (2)).toNatClampNeg)
      refine iL_law_841 (iL_law_842 (iL_law_843 (iL_law_844 (iL_law_845 (iL_law_846 v1 (iL_law_847 (iL_law_848 (iL_law_849 (iL_law_850 (iL_law_851 v2 (jL_law_852 (by decide) hc (fun r852 g852 I852 J852 hq => ?_))))))))))))
      obtain ⟨rfl, rfl, hq⟩ := hq
      refine iL_law_855 (iL_law_856 (iL_law_857 (iL_law_858 (iL_law_859 (iL_law_860 v1 (iL_law_861 (iL_law_862 (iL_law_863 (iL_law_864 (iL_law_865 v2 (jL_law_866 (by decide) (hm _ _ hq) (fun r866 g866 I866 J866 hq => ?_))))))))))))
      obtain ⟨rfl, rfl, hq2⟩ := hq
      refine iL_law_869 (iL_law_870 (fun h870 => ?_) (fun h870 => absurd (lgc_self v) (by first | exact h870 | exact fun q => q h870)))
      exact hnext _ _ hq2
    · obtain ⟨v, mid, hc, hm⟩ := p_leagues I J hI (xs (nI i + (1)).toNatClampNeg)
      refine iL_law_875 (iL_law_876 (iL_law_877 (iL_law_878 (iL_law_879 (iL_law_880 v1 (jL_law_881 (by decide) hc (fun r881 g881 I881 J881 hq => ?_)))))))
      obtain ⟨rfl, rfl, hq⟩ := hq
      refine iL_law_884 (iL_law_885 (iL_law_886 (iL_law_887 (iL_law_888 (iL_law_889 v1 (jL_law_890 (by decide) (hm _ _ hq) (fun r890 g890 I890 J890 hq => ?_)))))))
      obtain ⟨rfl, rfl, hq2⟩ := hq
      refine iL_law_893 (fun h893 => ?_) (fun h893 => absurd (rfl) (by first | exact h893 | exact fun q => q h893))
      exact hnext _ _ hq2
    · obtain ⟨v, mid, hc, hm⟩ := p_byTurns I J hI (xs (nI i + (1)).toNatClampNeg) (xs (nI i + (2)).toNatClampNeg) (xs (nI i + (3)).toNatClampNeg)
      refine iL_law_898 (iL_law_899 (iL_law_900 (iL_law_901 (iL_law_902 (iL_law_903 v1 (iL_law_904 (iL_law_905 (iL_law_906 (iL_law_907 (iL_law_908 v2 (iL_law_909 (iL_law_910 (iL_law_911 (iL_law_912 (iL_law_913 v3 (jL_law_914 (by decide) hc (fun r914 g914 I914 J914 hq => ?_)))))))))))))))))
      obtain ⟨rfl, rfl, hq⟩ := hq
      refine iL_law_917 (iL_law_918 (iL_law_919 (iL_law_920 (iL_law_921 (iL_law_922 v1 (iL_law_923 (iL_law_924 (iL_law_925 (iL_law_926 (iL_law_927 v2 (iL_law_928 (iL_law_929 (iL_law_930 (iL_law_931 (iL_law_932 v3 (jL_law_933 (by decide) (hm _ _ hq) (fun r933 g933 I933 J933 hq => ?_)))))))))))))))))
      obtain ⟨rfl, rfl, hq2⟩ := hq
      refine iL_law_936 (fun h936 => ?_) (fun h936 => absurd (rfl) (by first | exact h936 | exact fun q => q h936))
      exact hnext _ _ hq2
    · obtain ⟨v, mid, hc, hm⟩ := p_drawn I J hI (xs (nI i + (1)).toNatClampNeg) (xs (nI i + (2)).toNatClampNeg) (xs (nI i + (3)).toNatClampNeg) (xs (nI i + (4)).toNatClampNeg)
      refine iL_law_941 (iL_law_942 (iL_law_943 (iL_law_944 (iL_law_945 (iL_law_946 v1 (iL_law_947 (iL_law_948 (iL_law_949 (iL_law_950 (iL_law_951 v2 (iL_law_952 (iL_law_953 (iL_law_954 (iL_law_955 (iL_law_956 v3 (iL_law_957 (iL_law_958 (iL_law_959 (iL_law_960 (iL_law_961 v4 (jL_law_962 (by decide) hc (fun r962 g962 I962 J962 hq => ?_))))))))))))))))))))))
      obtain ⟨rfl, rfl, hq⟩ := hq
      refine iL_law_965 (iL_law_966 (iL_law_967 (iL_law_968 (iL_law_969 (iL_law_970 v1 (iL_law_971 (iL_law_972 (iL_law_973 (iL_law_974 (iL_law_975 v2 (iL_law_976 (iL_law_977 (iL_law_978 (iL_law_979 (iL_law_980 v3 (iL_law_981 (iL_law_982 (iL_law_983 (iL_law_984 (iL_law_985 v4 (jL_law_986 (by decide) (hm _ _ hq) (fun r986 g986 I986 J986 hq => ?_))))))))))))))))))))))
      obtain ⟨rfl, rfl, hq2⟩ := hq
      refine iL_law_989 (fun h989 => ?_) (fun h989 => absurd (rfl) (by first | exact h989 | exact fun q => q h989))
      exact hnext _ _ hq2
    · obtain ⟨v, mid, hc, hm⟩ := p_read I J hI (xs (nI i + (1)).toNatClampNeg)
      refine iL_law_994 (iL_law_995 (iL_law_996 (iL_law_997 (iL_law_998 (iL_law_999 v1 (jL_law_1000 (by decide) hc (fun r1000 g1000 I1000 J1000 hq => ?_)))))))
      obtain ⟨rfl, rfl, hq⟩ := hq
      refine iL_law_1003 (iL_law_1004 (iL_law_1005 (iL_law_1006 (iL_law_1007 (iL_law_1008 v1 (jL_law_1009 (by decide) (hm _ _ hq) (fun r1009 g1009 I1009 J1009 hq => ?_)))))))
      obtain ⟨rfl, rfl, hq2⟩ := hq
      refine iL_law_1012 (fun h1012 => ?_) (fun h1012 => absurd (rfl) (by first | exact h1012 | exact fun q => q h1012))
      exact hnext _ _ hq2
    · obtain ⟨v, mid, hc, hm⟩ := p_fed I J hI
      refine iL_law_1017 (jL_law_1018 (by decide) hc (fun r1018 g1018 I1018 J1018 hq => ?_))
      obtain ⟨rfl, rfl, hq⟩ := hq
      refine iL_law_1021 (jL_law_1022 (by decide) (hm _ _ hq) (fun r1022 g1022 I1022 J1022 hq => ?_))
      obtain ⟨rfl, rfl, hq2⟩ := hq
      refine iL_law_1025 (fun h1025 => ?_) (fun h1025 => absurd (rfl) (by first | exact h1025 | exact fun q => q h1025))
      exact hnext _ _ hq2
    · obtain ⟨v, mid, hc, hm⟩ := p_born I J hI (xs (nI i + (1)).toNatClampNeg) (xs (nI i + (2)).toNatClampNeg)
      refine iL_law_1030 (iL_law_1031 (iL_law_1032 (iL_law_1033 (iL_law_1034 (iL_law_1035 v1 (iL_law_1036 (iL_law_1037 (iL_law_1038 (iL_law_1039 (iL_law_1040 v2 (jL_law_1041 (by decide) hc (fun r1041 g1041 I1041 J1041 hq => ?_))))))))))))
      obtain ⟨rfl, rfl, hq⟩ := hq
      refine iL_law_1044 (iL_law_1045 (iL_law_1046 (iL_law_1047 (iL_law_1048 (iL_law_1049 v1 (iL_law_1050 (iL_law_1051 (iL_law_1052 (iL_law_1053 (iL_law_1054 v2 (jL_law_1055 (by decide) (hm _ _ hq) (fun r1055 g1055 I1055 J1055 hq => ?_))))))))))))
      obtain ⟨rfl, rfl, hq2⟩ := hq
      refine iL_law_1058 (fun h1058 => ?_) (fun h1058 => absurd (rfl) (by first | exact h1058 | exact fun q => q h1058))
      exact hnext _ _ hq2
    · obtain ⟨v, mid, hc, hm⟩ := p_pass I J hI (xs (nI i + (1)).toNatClampNeg)
      refine iL_law_1063 (iL_law_1064 (iL_law_1065 (iL_law_1066 (iL_law_1067 (iL_law_1068 v1 (jL_law_1069 (by decide) hc (fun r1069 g1069 I1069 J1069 hq => ?_)))))))
      obtain ⟨rfl, rfl, hq⟩ := hq
      refine iL_law_1072 (iL_law_1073 (iL_law_1074 (iL_law_1075 (iL_law_1076 (iL_law_1077 v1 (jL_law_1078 (by decide) (hm _ _ hq) (fun r1078 g1078 I1078 J1078 hq => ?_)))))))
      obtain ⟨rfl, rfl, hq2⟩ := hq
      refine iL_law_1081 (fun h1081 => ?_) (fun h1081 => absurd (rfl) (by first | exact h1081 | exact fun q => q h1081))
      exact hnext _ _ hq2
    · obtain ⟨v, mid, hc, hm⟩ := p_led I J hI (xs (nI i + (1)).toNatClampNeg)
      refine iL_law_1086 (iL_law_1087 (iL_law_1088 (iL_law_1089 (iL_law_1090 (iL_law_1091 v1 (jL_law_1092 (by decide) hc (fun r1092 g1092 I1092 J1092 hq => ?_)))))))
      obtain ⟨rfl, rfl, hq⟩ := hq
      refine iL_law_1095 (iL_law_1096 (iL_law_1097 (iL_law_1098 (iL_law_1099 (iL_law_1100 v1 (jL_law_1101 (by decide) (hm _ _ hq) (fun r1101 g1101 I1101 J1101 hq => ?_)))))))
      obtain ⟨rfl, rfl, hq2⟩ := hq
      refine iL_law_1104 (fun h1104 => ?_) (fun h1104 => absurd (rfl) (by first | exact h1104 | exact fun q => q h1104))
      exact hnext _ _ hq2
    · obtain ⟨v, mid, hc, hm⟩ := p_image I J hI
      refine iL_law_1109 (jL_law_1110 (by decide) hc (fun r1110 g1110 I1110 J1110 hq => ?_))
      obtain ⟨rfl, rfl, hq⟩ := hq
      refine iL_law_1113 (jL_law_1114 (by decide) (hm _ _ hq) (fun r1114 g1114 I1114 J1114 hq => ?_))
      obtain ⟨rfl, rfl, hq2⟩ := hq
      refine iL_law_1117 (fun h1117 => ?_) (fun h1117 => absurd (rfl) (by first | exact h1117 | exact fun q => q h1117))
      exact hnext _ _ hq2
    · obtain ⟨v, mid, hc, hm⟩ := p_back I J hI
      refine iL_law_1122 (jL_law_1123 (by decide) hc (fun r1123 g1123 I1123 J1123 hq => ?_))
      obtain ⟨rfl, rfl, hq⟩ := hq
      refine iL_law_1126 (jL_law_1127 (by decide) (hm _ _ hq) (fun r1127 g1127 I1127 J1127 hq => ?_))
      obtain ⟨rfl, rfl, hq2⟩ := hq
      refine iL_law_1130 (fun h1130 => ?_) (fun h1130 => absurd (rfl) (by first | exact h1130 | exact fun q => q h1130))
      exact hnext _ _ hq2
    · obtain ⟨v, mid, hc, hm⟩ := p_undo I J hI
      refine iL_law_1135 (jL_law_1136 (by decide) hc (fun r1136 g1136 I1136 J1136 hq => ?_))
      obtain ⟨rfl, rfl, hq⟩ := hq
      refine iL_law_1139 (jL_law_1140 (by decide) (hm _ _ hq) (fun r1140 g1140 I1140 J1140 hq => ?_))
      obtain ⟨rfl, rfl, hq2⟩ := hq
      refine iL_law_1143 (fun h1143 => ?_) (fun h1143 => absurd (rfl) (by first | exact h1143 | exact fun q => q h1143))
      exact hnext _ _ hq2
    · obtain ⟨v, mid, hc, hm⟩ := p_redo I J hI
      refine iL_law_1148 (jL_law_1149 (by decide) hc (fun r1149 g1149 I1149 J1149 hq => ?_))
      obtain ⟨rfl, rfl, hq⟩ := hq
      refine iL_law_1152 (jL_law_1153 (by decide) (hm _ _ hq) (fun r1153 g1153 I1153 J1153 hq => ?_))
      obtain ⟨rfl, rfl, hq2⟩ := hq
      refine iL_law_1156 (fun h1156 => ?_) (fun h1156 => absurd (rfl) (by first | exact h1156 | exact fun q => q h1156))
      exact hnext _ _ hq2
    · obtain ⟨v, mid, hc, hm⟩ := p_body I J hI (xs (nI i + (1)).toNatClampNeg)
      refine iL_law_1161 (iL_law_1162 (iL_law_1163 (iL_law_1164 (iL_law_1165 (iL_law_1166 v1 (jL_law_1167 (by decide) hc (fun r1167 g1167 I1167 J1167 hq => ?_)))))))
      obtain ⟨rfl, rfl, hq⟩ := hq
      refine iL_law_1170 (iL_law_1171 (iL_law_1172 (iL_law_1173 (iL_law_1174 (iL_law_1175 v1 (jL_law_1176 (by decide) (hm _ _ hq) (fun r1176 g1176 I1176 J1176 hq => ?_)))))))
      obtain ⟨rfl, rfl, hq2⟩ := hq
      refine iL_law_1179 (fun h1179 => ?_) (fun h1179 => absurd (rfl) (by first | exact h1179 | exact fun q => q h1179))
      exact hnext _ _ hq2
    · obtain ⟨v, mid, hc, hm⟩ := p_act I J hI (xs (nI i + (1)).toNatClampNeg) (xs (nI i + (2)).toNatClampNeg) (xs (nI i + (3)).toNatClampNeg)
      refine iL_law_1184 (iL_law_1185 (iL_law_1186 (iL_law_1187 (iL_law_1188 (iL_law_1189 v1 (iL_law_1190 (iL_law_1191 (iL_law_1192 (iL_law_1193 (iL_law_1194 v2 (iL_law_1195 (iL_law_1196 (iL_law_1197 (iL_law_1198 (iL_law_1199 v3 (jL_law_1200 (by decide) hc (fun r1200 g1200 I1200 J1200 hq => ?_)))))))))))))))))
      obtain ⟨rfl, rfl, hq⟩ := hq
      refine iL_law_1203 (iL_law_1204 (iL_law_1205 (iL_law_1206 (iL_law_1207 (iL_law_1208 v1 (iL_law_1209 (iL_law_1210 (iL_law_1211 (iL_law_1212 (iL_law_1213 v2 (iL_law_1214 (iL_law_1215 (iL_law_1216 (iL_law_1217 (iL_law_1218 v3 (jL_law_1219 (by decide) (hm _ _ hq) (fun r1219 g1219 I1219 J1219 hq => ?_)))))))))))))))))
      obtain ⟨rfl, rfl, hq2⟩ := hq
      refine iL_law_1222 (fun h1222 => ?_) (fun h1222 => absurd (rfl) (by first | exact h1222 | exact fun q => q h1222))
      exact hnext _ _ hq2
    · obtain ⟨v, mid, hc, hm⟩ := p_trace I J hI (xs (nI i + (1)).toNatClampNeg)
      refine iL_law_1227 (iL_law_1228 (iL_law_1229 (iL_law_1230 (iL_law_1231 (iL_law_1232 v1 (jL_law_1233 (by decide) hc (fun r1233 g1233 I1233 J1233 hq => ?_)))))))
      obtain ⟨rfl, rfl, hq⟩ := hq
      refine iL_law_1236 (iL_law_1237 (iL_law_1238 (iL_law_1239 (iL_law_1240 (iL_law_1241 v1 (jL_law_1242 (by decide) (hm _ _ hq) (fun r1242 g1242 I1242 J1242 hq => ?_)))))))
      obtain ⟨rfl, rfl, hq2⟩ := hq
      refine iL_law_1245 (fun h1245 => ?_) (fun h1245 => absurd (rfl) (by first | exact h1245 | exact fun q => q h1245))
      exact hnext _ _ hq2
    · obtain ⟨v, mid, hc, hm⟩ := p_keep I J hI (xs (nI i + (1)).toNatClampNeg) (xs (nI i + (2)).toNatClampNeg)
      refine iL_law_1250 (iL_law_1251 (iL_law_1252 (iL_law_1253 (iL_law_1254 (iL_law_1255 v1 (iL_law_1256 (iL_law_1257 (iL_law_1258 (iL_law_1259 (iL_law_1260 v2 (jL_law_1261 (by decide) hc (fun r1261 g1261 I1261 J1261 hq => ?_))))))))))))
      obtain ⟨rfl, rfl, hq⟩ := hq
      refine iL_law_1264 (iL_law_1265 (iL_law_1266 (iL_law_1267 (iL_law_1268 (iL_law_1269 v1 (iL_law_1270 (iL_law_1271 (iL_law_1272 (iL_law_1273 (iL_law_1274 v2 (jL_law_1275 (by decide) (hm _ _ hq) (fun r1275 g1275 I1275 J1275 hq => ?_))))))))))))
      obtain ⟨rfl, rfl, hq2⟩ := hq
      refine iL_law_1278 (fun h1278 => ?_) (fun h1278 => absurd (rfl) (by first | exact h1278 | exact fun q => q h1278))
      exact hnext _ _ hq2
    · obtain ⟨v, mid, hc, hm⟩ := p_row I J hI (xs (nI i + (1)).toNatClampNeg) (xs (nI i + (2)).toNatClampNeg) (xs (nI i + (3)).toNatClampNeg)
      refine iL_law_1283 (iL_law_1284 (iL_law_1285 (iL_law_1286 (iL_law_1287 (iL_law_1288 v1 (iL_law_1289 (iL_law_1290 (iL_law_1291 (iL_law_1292 (iL_law_1293 v2 (iL_law_1294 (iL_law_1295 (iL_law_1296 (iL_law_1297 (iL_law_1298 v3 (jL_law_1299 (by decide) hc (fun r1299 g1299 I1299 J1299 hq => ?_)))))))))))))))))
      obtain ⟨rfl, rfl, hq⟩ := hq
      refine iL_law_1302 (iL_law_1303 (iL_law_1304 (iL_law_1305 (iL_law_1306 (iL_law_1307 v1 (iL_law_1308 (iL_law_1309 (iL_law_1310 (iL_law_1311 (iL_law_1312 v2 (iL_law_1313 (iL_law_1314 (iL_law_1315 (iL_law_1316 (iL_law_1317 v3 (jL_law_1318 (by decide) (hm _ _ hq) (fun r1318 g1318 I1318 J1318 hq => ?_)))))))))))))))))
      obtain ⟨rfl, rfl, hq2⟩ := hq
      refine iL_law_1321 (fun h1321 => ?_) (fun h1321 => absurd (rfl) (by first | exact h1321 | exact fun q => q h1321))
      exact hnext _ _ hq2
    · obtain ⟨v, mid, hc, hm⟩ := p_put I J hI (xs (nI i + (1)).toNatClampNeg) (xs (nI i + (2)).toNatClampNeg) (((xs (nI i + (3)).toNatClampNeg).toInt64 <<< (Int32.toInt64 (32) &&& 63)) ||| ((xs (nI i + (4)).toNatClampNeg).toInt64 &&& (4294967295)))
      refine iL_law_1326 (iL_law_1327 (iL_law_1328 (iL_law_1329 (iL_law_1330 (iL_law_1331 v1 (iL_law_1332 (iL_law_1333 (iL_law_1334 (iL_law_1335 (iL_law_1336 v2 (iL_law_1337 (iL_law_1338 (iL_law_1339 (iL_law_1340 (iL_law_1341 v3 (iL_law_1342 (iL_law_1343 (iL_law_1345 (iL_law_1346 (iL_law_1347 (iL_law_1348 (iL_law_1349 (iL_law_1350 v4 (iL_law_1351 (iL_law_1352 (iL_law_1355 (iL_law_1356 (jL_law_1357 (by decide) hc (fun r1357 g1357 I1357 J1357 hq => ?_)))))))))))))))))))))))))))))
      obtain ⟨rfl, rfl, hq⟩ := hq
      refine iL_law_1360 (iL_law_1361 (iL_law_1362 (iL_law_1363 (iL_law_1364 (iL_law_1365 v1 (iL_law_1366 (iL_law_1367 (iL_law_1368 (iL_law_1369 (iL_law_1370 v2 (iL_law_1371 (iL_law_1372 (iL_law_1373 (iL_law_1374 (iL_law_1375 v3 (iL_law_1376 (iL_law_1377 (iL_law_1379 (iL_law_1380 (iL_law_1381 (iL_law_1382 (iL_law_1383 (iL_law_1384 v4 (iL_law_1385 (iL_law_1386 (iL_law_1389 (iL_law_1390 (jL_law_1391 (by decide) (hm _ _ hq) (fun r1391 g1391 I1391 J1391 hq => ?_)))))))))))))))))))))))))))))
      obtain ⟨rfl, rfl, hq2⟩ := hq
      refine iL_law_1394 (fun h1394 => ?_) (fun h1394 => absurd (rfl) (by first | exact h1394 | exact fun q => q h1394))
      exact hnext _ _ hq2
    · obtain ⟨v, mid, hc, hm⟩ := p_element I J hI (xs (nI i + (1)).toNatClampNeg) (xs (nI i + (2)).toNatClampNeg)
      refine iL_law_1399 (iL_law_1400 (iL_law_1401 (iL_law_1402 (iL_law_1403 (iL_law_1404 v1 (iL_law_1405 (iL_law_1406 (iL_law_1407 (iL_law_1408 (iL_law_1409 v2 (jL_law_1410 (by decide) hc (fun r1410 g1410 I1410 J1410 hq => ?_))))))))))))
      obtain ⟨rfl, rfl, hq⟩ := hq
      refine iL_law_1413 (iL_law_1414 (iL_law_1415 (iL_law_1416 (iL_law_1417 (iL_law_1418 v1 (iL_law_1419 (iL_law_1420 (iL_law_1421 (iL_law_1422 (iL_law_1423 v2 (jL_law_1424 (by decide) (hm _ _ hq) (fun r1424 g1424 I1424 J1424 hq => ?_))))))))))))
      obtain ⟨rfl, rfl, hq2⟩ := hq
      refine iL_law_1427 (iL_law_1428 (fun h1428 => ?_) (fun h1428 => absurd (lgc_self v) (by first | exact h1428 | exact fun q => q h1428)))
      exact hnext _ _ hq2
    · obtain ⟨v, mid, hc, hm⟩ := p_shift I J hI (xs (nI i + (1)).toNatClampNeg) (xs (nI i + (2)).toNatClampNeg) (xs (nI i + (3)).toNatClampNeg) (xs (nI i + (4)).toNatClampNeg) (xs (nI i + (5)).toNatClampNeg)
      refine iL_law_1433 (iL_law_1434 (iL_law_1435 (iL_law_1436 (iL_law_1437 (iL_law_1438 v1 (iL_law_1439 (iL_law_1440 (iL_law_1441 (iL_law_1442 (iL_law_1443 v2 (iL_law_1444 (iL_law_1445 (iL_law_1446 (iL_law_1447 (iL_law_1448 v3 (iL_law_1449 (iL_law_1450 (iL_law_1451 (iL_law_1452 (iL_law_1453 v4 (iL_law_1454 (iL_law_1455 (iL_law_1456 (iL_law_1457 (iL_law_1458 v5 (jL_law_1459 (by decide) hc (fun r1459 g1459 I1459 J1459 hq => ?_)))))))))))))))))))))))))))
      obtain ⟨rfl, rfl, hq⟩ := hq
      refine iL_law_1462 (iL_law_1463 (iL_law_1464 (iL_law_1465 (iL_law_1466 (iL_law_1467 v1 (iL_law_1468 (iL_law_1469 (iL_law_1470 (iL_law_1471 (iL_law_1472 v2 (iL_law_1473 (iL_law_1474 (iL_law_1475 (iL_law_1476 (iL_law_1477 v3 (iL_law_1478 (iL_law_1479 (iL_law_1480 (iL_law_1481 (iL_law_1482 v4 (iL_law_1483 (iL_law_1484 (iL_law_1485 (iL_law_1486 (iL_law_1487 v5 (jL_law_1488 (by decide) (hm _ _ hq) (fun r1488 g1488 I1488 J1488 hq => ?_)))))))))))))))))))))))))))
      obtain ⟨rfl, rfl, hq2⟩ := hq
      refine iL_law_1491 (fun h1491 => ?_) (fun h1491 => absurd (rfl) (by first | exact h1491 | exact fun q => q h1491))
      exact hnext _ _ hq2
    · obtain ⟨v, mid, hc, hm⟩ := p_taken I J hI (xs (nI i + (1)).toNatClampNeg) (xs (nI i + (2)).toNatClampNeg)
      refine iL_law_1496 (iL_law_1497 (iL_law_1498 (iL_law_1499 (iL_law_1500 (iL_law_1501 v1 (iL_law_1502 (iL_law_1503 (iL_law_1504 (iL_law_1505 (iL_law_1506 v2 (jL_law_1507 (by decide) hc (fun r1507 g1507 I1507 J1507 hq => ?_))))))))))))
      obtain ⟨rfl, rfl, hq⟩ := hq
      refine iL_law_1510 (iL_law_1511 (iL_law_1512 (iL_law_1513 (iL_law_1514 (iL_law_1515 v1 (iL_law_1516 (iL_law_1517 (iL_law_1518 (iL_law_1519 (iL_law_1520 v2 (jL_law_1521 (by decide) (hm _ _ hq) (fun r1521 g1521 I1521 J1521 hq => ?_))))))))))))
      obtain ⟨rfl, rfl, hq2⟩ := hq
      refine iL_law_1524 (fun h1524 => ?_) (fun h1524 => absurd (rfl) (by first | exact h1524 | exact fun q => q h1524))
      exact hnext _ _ hq2
    · obtain ⟨v, mid, hc, hm⟩ := p_count I J hI (xs (nI i + (1)).toNatClampNeg)
      refine iL_law_1529 (iL_law_1530 (iL_law_1531 (iL_law_1532 (iL_law_1533 (iL_law_1534 v1 (jL_law_1535 (by decide) hc (fun r1535 g1535 I1535 J1535 hq => ?_)))))))
      obtain ⟨rfl, rfl, hq⟩ := hq
      refine iL_law_1538 (iL_law_1539 (iL_law_1540 (iL_law_1541 (iL_law_1542 (iL_law_1543 v1 (jL_law_1544 (by decide) (hm _ _ hq) (fun r1544 g1544 I1544 J1544 hq => ?_)))))))
      obtain ⟨rfl, rfl, hq2⟩ := hq
      refine iL_law_1547 (fun h1547 => ?_) (fun h1547 => absurd (rfl) (by first | exact h1547 | exact fun q => q h1547))
      exact hnext _ _ hq2
    · exact hnext I J hI
