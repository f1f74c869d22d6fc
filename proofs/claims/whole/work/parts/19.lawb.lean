set_option maxHeartbeats 4000000 in
set_option maxRecDepth 100000 in
theorem law_compare {p : Program} {l : Launch} {e : Env} {s : State} {m : MethodId} {below : List Frame} {meth : Method} {c : Code} {b L : Nat} {xs : Nat → Int32} {Q : State → Prop} (hst : l.stackTraces = false) (C0 : lw_At p s m meth c b L xs) {dC : Nat → ClassId} {dI : Nat → Nat → Nat} {a : Nat → Nat} {k : Nat → ClassId} (hinj : nInj a) (hge : ∀ i : Nat, i < 8 → s.heap.size ≤ a i) {sa sb : Nat} (hz : nPz s.heap.size sa sb s) {fn ft gn gt gm : Nat → Int32} {fl : Int32} {o : Nat → Int64} (hrel : nRel fn ft gn gt) {i : Nat} (hi : i + 5 ≤ L) (hL : L ≤ 2560) {H : Heap} {locs : List Loc} (hK : va_K (dC, dI) vwCl (nT k) s) (hP : va_P (dC, dI) vwCl (nW a k fn ft gn gt gm fl o) H) (hS : va_S (fun q => s.heap.size ≤ q) s.heap H locs) {cells slots : Nat} (hc : cells + 1 ≤ 1034) (hs : slots + 6 ≤ 34835) {ls : Array Slot} (hl : lv_has ls 7 (nLoc b a i))
    (kk : ∀ (fn ft gn gt gm : Nat → Int32) (fl : Int32) (o : Nat → Int64) (H : Heap) (locs : List Loc) (ls : Array Slot), nRel fn ft gn gt → va_P (dC, dI) vwCl (nW a k fn ft gn gt gm fl o) H → va_S (fun q => s.heap.size ≤ q) s.heap H locs → lv_has ls 7 (nLoc b a i) → W p l e room_1 s m #[Value.ref b] below meth c H locs (cells + 1) (slots + 6) Q (F0 m 795 ls [])) :
    W p l e room_1 s m #[Value.ref b] below meth c H locs cells slots Q (F0 m 284 ls []) := by
  obtain ⟨hx, hb, hr, hml, hown, hts, hX, hbl, hlocks, hgv⟩ := C0
  have hown : s.vm.findClass RL = some m.cls := hown
  have htw : ∀ w ∈ wsL_law, w.before #[Value.ref b] s = true := fun w hw => hts w (wsL_law_in w hw)
  have hbA : ¬ (fun q : Nat => s.heap.size ≤ q) b := Nat.not_le.mpr hbl
  refine lv_aload_n hx hb dL_law_284 rfl (lv_at hl 2 rfl) ?_
  refine lv_aload_n hx hb dL_law_285 rfl (lv_at hl 1 rfl) ?_
  refine lv_iload hx hb dL_law_286 (lv_at hl 0 rfl) ?_
  refine lv_iconst (v := nI 1) hx hb dL_law_288 (by decide +kernel) ?_
  refine lv_iadd hx hb dL_law_289 ?_
  refine lv_topi (fun x_290_1 ex_290_1 => ?_)
  obtain rfl : x_290_1 = nI (i + 1) := by rw [ex_290_1]; exact nI_add i 1
  refine va_sld (i := nI (i + 1)) hx hb hX hbl hbA hS (vp_in_nI (by omega) (by omega)) dL_law_290 ?_
  refine lv_topi (fun x_291_2 ex_291_2 => ?_)
  obtain rfl : x_291_2 = xs (i + 1) := by rw [ex_291_2]; rw [nI_clamp (show i + 1 < 2 ^ 31 by omega)]
  refine lv_aload_n hx hb dL_law_291 rfl (lv_at hl 1 rfl) ?_
  refine lv_iload hx hb dL_law_292 (lv_at hl 0 rfl) ?_
  refine lv_iconst (v := nI 2) hx hb dL_law_294 (by decide +kernel) ?_
  refine lv_iadd hx hb dL_law_295 ?_
  refine lv_topi (fun x_296_3 ex_296_3 => ?_)
  obtain rfl : x_296_3 = nI (i + 2) := by rw [ex_296_3]; exact nI_add i 2
  refine va_sld (i := nI (i + 2)) hx hb hX hbl hbA hS (vp_in_nI (by omega) (by omega)) dL_law_296 ?_
  refine lv_topi (fun x_297_4 ex_297_4 => ?_)
  obtain rfl : x_297_4 = xs (i + 2) := by rw [ex_297_4]; rw [nI_clamp (show i + 2 < 2 ^ 31 by omega)]
  refine lv_aload_n hx hb dL_law_297 rfl (lv_at hl 1 rfl) ?_
  refine lv_iload hx hb dL_law_298 (lv_at hl 0 rfl) ?_
  refine lv_iconst (v := nI 3) hx hb dL_law_300 (by decide +kernel) ?_
  refine lv_iadd hx hb dL_law_301 ?_
  refine lv_topi (fun x_302_5 ex_302_5 => ?_)
  obtain rfl : x_302_5 = nI (i + 3) := by rw [ex_302_5]; exact nI_add i 3
  refine va_sld (i := nI (i + 3)) hx hb hX hbl hbA hS (vp_in_nI (by omega) (by omega)) dL_law_302 ?_
  refine lv_topi (fun x_303_6 ex_303_6 => ?_)
  obtain rfl : x_303_6 = xs (i + 3) := by rw [ex_303_6]; rw [nI_clamp (show i + 3 < 2 ^ 31 by omega)]
  refine lv_aload_n hx hb dL_law_303 rfl (lv_at hl 1 rfl) ?_
  refine lv_iload hx hb dL_law_304 (lv_at hl 0 rfl) ?_
  refine lv_iconst (v := nI 4) hx hb dL_law_306 (by decide +kernel) ?_
  refine lv_iadd hx hb dL_law_307 ?_
  refine lv_topi (fun x_308_7 ex_308_7 => ?_)
  obtain rfl : x_308_7 = nI (i + 4) := by rw [ex_308_7]; exact nI_add i 4
  refine va_sld (i := nI (i + 4)) hx hb hX hbl hbA hS (vp_in_nI (by omega) (by omega)) dL_law_308 ?_
  refine lv_topi (fun x_309_8 ex_309_8 => ?_)
  obtain rfl : x_309_8 = xs (i + 4) := by rw [ex_309_8]; rw [nI_clamp (show i + 4 < 2 ^ 31 by omega)]
  refine lv_aload_n hx hb dL_law_309 rfl (lv_at hl 4 rfl) ?_
  cases hbd : (nO (xs (i + 1)) 8 || nO (xs (i + 2)) 4 || nO (xs (i + 3)) 8 || nO (xs (i + 4)) 8)
  · obtain ⟨hb0, hb4⟩ := Bool.or_eq_false_iff.mp hbd
    obtain ⟨hb0, hb3⟩ := Bool.or_eq_false_iff.mp hb0
    obtain ⟨hb0, hb2⟩ := Bool.or_eq_false_iff.mp hb0
    have hb1 := hb0
    obtain ⟨tr, htr, etr⟩ := nO_of hb1 (by decide)
    obtain ⟨kd, hkd, ekd⟩ := nO_of hb2 (by decide)
    obtain ⟨p0, hp0, ep0⟩ := nO_of hb3 (by decide)
    obtain ⟨q0, hq0, eq0⟩ := nO_of hb4 (by decide)
    rw [etr, ekd, ep0, eq0]
    refine va_calli (vx_runSW (As := [.ref (a 0), .int (nI tr), .int (nI kd), .int (nI p0), .int (nI q0), .ref (a 7)]) (rest := []) ⟨hx, hb, hml, hown, hts⟩ (w_compare l dC dI a k fn ft gn gt gm fl o hinj tr kd p0 q0 htr hkd hp0 hq0) (vx_cwSW 6 htw gL_law_L_compare rfl rfl rfl (by decide +kernel) ⟨Nat.le_of_ble_eq_true rfl, Nat.le_of_ble_eq_true rfl⟩) (nPre hP hK) rfl rfl hl.1 rfl (lv_room (Nat.le_of_ble_eq_true rfl)) dL_law_310 ⟨by show _ ≤ 1034; omega, by show _ ≤ 34835; omega⟩) hS (fun q _ h => nA0_ge hge q h) (fun q h => nA0_ge hge q h) (fun r5 _ t H locs ht hvm er5 hB _ _ hS => ?_)
    subst er5
    have hP : va_P (dC, dI) vwCl (nW a k fn (nF ft 0 1024 (nvT ft tr (nyC fn kd p0 q0))) gn gt gm fl (vp_updL o (nI 0).toNatClampNeg ((nI (nN (nyC fn kd p0 q0) 1024)).toInt64))) H := by rw [← ht]; exact hB.1
    refine lv_istore (lv' := [(5, .int (nI 0)), (4, .int (nI i)), (0, .ref b), (1, .ref (a 0)), (2, .ref (a 3)), (3, .ref (a 7))]) hx hb dL_law_313 hl (by decide) rfl (fun ls hl => ?_)
    refine lv_aload_n hx hb dL_law_315 rfl (lv_at hl 4 rfl) ?_
    refine lv_aload_n hx hb dL_law_316 rfl (lv_at hl 2 rfl) ?_
    refine lv_iload hx hb dL_law_317 (lv_at hl 1 rfl) ?_
    refine lv_iconst (v := nI 1) hx hb dL_law_319 (by decide +kernel) ?_
    refine lv_iadd hx hb dL_law_320 ?_
    refine lv_topi (fun x_321_9 ex_321_9 => ?_)
    obtain rfl : x_321_9 = nI (i + 1) := by rw [ex_321_9]; exact nI_add i 1
    refine va_sld (i := nI (i + 1)) hx hb hX hbl hbA hS (vp_in_nI (by omega) (by omega)) dL_law_321 ?_
    refine lv_topi (fun x_322_10 ex_322_10 => ?_)
    obtain rfl : x_322_10 = nI tr := by rw [ex_322_10]; rw [nI_clamp (show i + 1 < 2 ^ 31 by omega)]; exact etr
    refine lv_aload_n hx hb dL_law_322 rfl (lv_at hl 2 rfl) ?_
    refine lv_iload hx hb dL_law_323 (lv_at hl 1 rfl) ?_
    refine lv_iconst (v := nI 2) hx hb dL_law_325 (by decide +kernel) ?_
    refine lv_iadd hx hb dL_law_326 ?_
    refine lv_topi (fun x_327_11 ex_327_11 => ?_)
    obtain rfl : x_327_11 = nI (i + 2) := by rw [ex_327_11]; exact nI_add i 2
    refine va_sld (i := nI (i + 2)) hx hb hX hbl hbA hS (vp_in_nI (by omega) (by omega)) dL_law_327 ?_
    refine lv_topi (fun x_328_12 ex_328_12 => ?_)
    obtain rfl : x_328_12 = nI kd := by rw [ex_328_12]; rw [nI_clamp (show i + 2 < 2 ^ 31 by omega)]; exact ekd
    refine lv_aload_n hx hb dL_law_328 rfl (lv_at hl 2 rfl) ?_
    refine lv_iload hx hb dL_law_329 (lv_at hl 1 rfl) ?_
    refine lv_iconst (v := nI 3) hx hb dL_law_331 (by decide +kernel) ?_
    refine lv_iadd hx hb dL_law_332 ?_
    refine lv_topi (fun x_333_13 ex_333_13 => ?_)
    obtain rfl : x_333_13 = nI (i + 3) := by rw [ex_333_13]; exact nI_add i 3
    refine va_sld (i := nI (i + 3)) hx hb hX hbl hbA hS (vp_in_nI (by omega) (by omega)) dL_law_333 ?_
    refine lv_topi (fun x_334_14 ex_334_14 => ?_)
    obtain rfl : x_334_14 = nI p0 := by rw [ex_334_14]; rw [nI_clamp (show i + 3 < 2 ^ 31 by omega)]; exact ep0
    refine lv_aload_n hx hb dL_law_334 rfl (lv_at hl 2 rfl) ?_
    refine lv_iload hx hb dL_law_335 (lv_at hl 1 rfl) ?_
    refine lv_iconst (v := nI 4) hx hb dL_law_337 (by decide +kernel) ?_
    refine lv_iadd hx hb dL_law_338 ?_
    refine lv_topi (fun x_339_15 ex_339_15 => ?_)
    obtain rfl : x_339_15 = nI (i + 4) := by rw [ex_339_15]; exact nI_add i 4
    refine va_sld (i := nI (i + 4)) hx hb hX hbl hbA hS (vp_in_nI (by omega) (by omega)) dL_law_339 ?_
    refine lv_topi (fun x_340_16 ex_340_16 => ?_)
    obtain rfl : x_340_16 = nI q0 := by rw [ex_340_16]; rw [nI_clamp (show i + 4 < 2 ^ 31 by omega)]; exact eq0
    refine va_calli (va_runV (As := [.int (nI tr), .int (nI kd), .int (nI p0), .int (nI q0)]) (rest := []) ⟨hx, hb, hml, hown, hts⟩ (m_compare l dC dI a k fn (nF ft 0 1024 (nvT ft tr (nyC fn kd p0 q0))) gn gt gm fl (vp_updL o (nI 0).toNatClampNeg ((nI (nN (nyC fn kd p0 q0) 1024)).toInt64)) hinj tr kd p0 q0 htr hkd hp0 hq0) (cwV 4 hts gl_X1_compare rfl rfl rfl (by decide +kernel) ⟨Nat.le_of_ble_eq_true rfl, Nat.le_of_ble_eq_true rfl⟩) (nPreV hP hK (va_recv hK hP (ci := 1) (q0 := 3) rfl rfl)) rfl rfl hl.1 rfl (lv_room (Nat.le_of_ble_eq_true rfl)) dL_law_340 ⟨by show _ ≤ 1034; omega, by show _ ≤ 34835; omega⟩) hS (fun q _ h => nA0_ge hge q h) (fun q h => nA0_ge hge q h) (fun r_340_17 _ t H locs ht hvm er_340_17 hB _ _ hS => ?_)
    subst er_340_17
    have hP : va_P (dC, dI) vwCl (nW a k fn (nF ft 0 1024 (nvT ft tr (nyC fn kd p0 q0))) gn (nF gt (1024 * tr) 1024 (mvB (nyC gn kd p0 q0))) gm (nI 0) (vp_updL o (nI 0).toNatClampNeg ((nI (nN (nyC fn kd p0 q0) 1024)).toInt64))) H := by rw [← ht]; exact hB.1
    refine lv_istore (lv' := [(6, .int (nI (nN (nyC gn kd p0 q0) 1024))), (5, .int (nI 0)), (4, .int (nI i)), (0, .ref b), (1, .ref (a 0)), (2, .ref (a 3)), (3, .ref (a 7))]) hx hb dL_law_343 hl (by decide) rfl (fun ls hl => ?_)
    refine lv_aload_n hx hb dL_law_345 rfl (lv_at hl 5 rfl) ?_
    refine vp_callSi (W.runV (As := []) (rest := []) ⟨hx, hb, hml, hown, hts⟩ (m_thrown l dC dI a k fn (nF ft 0 1024 (nvT ft tr (nyC fn kd p0 q0))) gn (nF gt (1024 * tr) 1024 (mvB (nyC gn kd p0 q0))) gm (nI 0) (vp_updL o (nI 0).toNatClampNeg ((nI (nN (nyC fn kd p0 q0) 1024)).toInt64))) (cwV 0 htw gL_law_X1_thrown rfl rfl rfl (by decide +kernel) ⟨Nat.le_of_ble_eq_true rfl, Nat.le_of_ble_eq_true rfl⟩) (nPreV hP hK (va_recv hK hP (ci := 1) (q0 := 3) rfl rfl)) rfl rfl hl.1 rfl (lv_room (Nat.le_of_ble_eq_true rfl)) dL_law_346 ⟨by show _ ≤ 1034; omega, by show _ ≤ 34835; omega⟩) (fun r_346_18 er_346_18 => ?_)
    subst er_346_18
    refine lv_iload hx hb dL_law_349 (lv_at hl 1 rfl) ?_
    refine lv_icmp_eq (tgt := 356) hx hb dL_law_351 (by decide) (fun _ => ?_) (fun c => absurd c (by decide +kernel))
    refine lv_iload hx hb dL_law_356 (lv_at hl 1 rfl) ?_
    refine lv_if_ne (tgt := 373) hx hb dL_law_358 (by decide) (fun c => absurd c (by decide +kernel)) (fun _ => ?_)
    refine lv_aload_n hx hb dL_law_361 rfl (lv_at hl 6 rfl) ?_
    refine lv_iconst (v := nI 0) hx hb dL_law_362 (by decide +kernel) ?_
    refine va_lald (i := nI 0) hx hb hK hP 7 5 rfl rfl (vp_in_nI (by omega) (by decide)) dL_law_363 ?_
    refine lv_topl (fun y_363_19 ey_363_19 => ?_)
    obtain rfl : y_363_19 = (nI (nN (nyC fn kd p0 q0) 1024)).toInt64 := by rw [ey_363_19]; exact pk_uLs
    refine lv_iload hx hb dL_law_364 (lv_at hl 0 rfl) ?_
    refine lv_i2l hx hb dL_law_366 rfl ?_
    refine W.lcmp hx hb dL_law_367 ?_
    refine lv_topi (fun x_368_20 ex_368_20 => ?_)
    obtain rfl : x_368_20 = nI 0 := by rw [ex_368_20]; rw [nN_congr 1024 (nC_eq hrel hp0 hq0)]; exact lg_cmp_self _
    refine lv_if_eq (tgt := 373) hx hb dL_law_368 (by decide) (fun _ => ?_) (fun c => absurd c (by decide +kernel))
    refine lv_goto (tgt := 795) hx hb dL_law_373 (by decide) ?_
    refine W.widen (k := cells + 1) (n := slots + 6) (by omega) (by omega) ?_
    exact kk _ _ _ _ _ _ _ _ _ _ (nRel_truth hrel htr (nC_eq hrel hp0 hq0)) hP hS (lv_sub hl [2, 3, 4, 5, 6] rfl)
  · refine va_calli (vx_runSW (As := [.ref (a 0), .int (xs (i + 1)), .int (xs (i + 2)), .int (xs (i + 3)), .int (xs (i + 4)), .ref (a 7)]) (rest := []) ⟨hx, hb, hml, hown, hts⟩ (wB_compare l dC dI a k fn ft gn gt gm fl o hst H.size sa sb (xs (i + 1)) (xs (i + 2)) (xs (i + 3)) (xs (i + 4)) hbd) (vx_cwSW 6 htw gL_law_L_compare rfl rfl rfl (by decide +kernel) ⟨Nat.le_of_ble_eq_true rfl, Nat.le_of_ble_eq_true rfl⟩) (nPzw_far hz hS hP hK) rfl rfl hl.1 rfl (lv_room (Nat.le_of_ble_eq_true rfl)) dL_law_310 ⟨by show _ ≤ 1034; omega, by show _ ≤ 34835; omega⟩) hS (fun q _ h => Nat.le_trans hS.1 h) (fun q h => Nat.le_trans hS.1 h) (fun r5 _ t H1 locs1 ht hvm er5 _ _ hk9 hS => ?_)
    subst er5
    have hP : va_P (dC, dI) vwCl (nW a k fn ft gn gt gm fl o) H1 := va_P.kept hP (fun i9 q9 hq9 => hk9 q9.1 (vx_lt hP hq9) (Nat.not_le.mpr (vx_lt hP hq9)))
    refine lv_istore (lv' := [(5, .int (nI 1)), (4, .int (nI i)), (0, .ref b), (1, .ref (a 0)), (2, .ref (a 3)), (3, .ref (a 7))]) hx hb dL_law_313 hl (by decide) rfl (fun ls hl => ?_)
    refine lv_aload_n hx hb dL_law_315 rfl (lv_at hl 4 rfl) ?_
    refine lv_aload_n hx hb dL_law_316 rfl (lv_at hl 2 rfl) ?_
    refine lv_iload hx hb dL_law_317 (lv_at hl 1 rfl) ?_
    refine lv_iconst (v := nI 1) hx hb dL_law_319 (by decide +kernel) ?_
    refine lv_iadd hx hb dL_law_320 ?_
    refine lv_topi (fun x_321_9 ex_321_9 => ?_)
    obtain rfl : x_321_9 = nI (i + 1) := by rw [ex_321_9]; exact nI_add i 1
    refine va_sld (i := nI (i + 1)) hx hb hX hbl hbA hS (vp_in_nI (by omega) (by omega)) dL_law_321 ?_
    refine lv_topi (fun x_322_10 ex_322_10 => ?_)
    obtain rfl : x_322_10 = xs (i + 1) := by rw [ex_322_10]; rw [nI_clamp (show i + 1 < 2 ^ 31 by omega)]
    refine lv_aload_n hx hb dL_law_322 rfl (lv_at hl 2 rfl) ?_
    refine lv_iload hx hb dL_law_323 (lv_at hl 1 rfl) ?_
    refine lv_iconst (v := nI 2) hx hb dL_law_325 (by decide +kernel) ?_
    refine lv_iadd hx hb dL_law_326 ?_
    refine lv_topi (fun x_327_11 ex_327_11 => ?_)
    obtain rfl : x_327_11 = nI (i + 2) := by rw [ex_327_11]; exact nI_add i 2
    refine va_sld (i := nI (i + 2)) hx hb hX hbl hbA hS (vp_in_nI (by omega) (by omega)) dL_law_327 ?_
    refine lv_topi (fun x_328_12 ex_328_12 => ?_)
    obtain rfl : x_328_12 = xs (i + 2) := by rw [ex_328_12]; rw [nI_clamp (show i + 2 < 2 ^ 31 by omega)]
    refine lv_aload_n hx hb dL_law_328 rfl (lv_at hl 2 rfl) ?_
    refine lv_iload hx hb dL_law_329 (lv_at hl 1 rfl) ?_
    refine lv_iconst (v := nI 3) hx hb dL_law_331 (by decide +kernel) ?_
    refine lv_iadd hx hb dL_law_332 ?_
    refine lv_topi (fun x_333_13 ex_333_13 => ?_)
    obtain rfl : x_333_13 = nI (i + 3) := by rw [ex_333_13]; exact nI_add i 3
    refine va_sld (i := nI (i + 3)) hx hb hX hbl hbA hS (vp_in_nI (by omega) (by omega)) dL_law_333 ?_
    refine lv_topi (fun x_334_14 ex_334_14 => ?_)
    obtain rfl : x_334_14 = xs (i + 3) := by rw [ex_334_14]; rw [nI_clamp (show i + 3 < 2 ^ 31 by omega)]
    refine lv_aload_n hx hb dL_law_334 rfl (lv_at hl 2 rfl) ?_
    refine lv_iload hx hb dL_law_335 (lv_at hl 1 rfl) ?_
    refine lv_iconst (v := nI 4) hx hb dL_law_337 (by decide +kernel) ?_
    refine lv_iadd hx hb dL_law_338 ?_
    refine lv_topi (fun x_339_15 ex_339_15 => ?_)
    obtain rfl : x_339_15 = nI (i + 4) := by rw [ex_339_15]; exact nI_add i 4
    refine va_sld (i := nI (i + 4)) hx hb hX hbl hbA hS (vp_in_nI (by omega) (by omega)) dL_law_339 ?_
    refine lv_topi (fun x_340_16 ex_340_16 => ?_)
    obtain rfl : x_340_16 = xs (i + 4) := by rw [ex_340_16]; rw [nI_clamp (show i + 4 < 2 ^ 31 by omega)]
    refine va_calli (va_runV (As := [.int (xs (i + 1)), .int (xs (i + 2)), .int (xs (i + 3)), .int (xs (i + 4))]) (rest := []) ⟨hx, hb, hml, hown, hts⟩ (m_compareB l dC dI a k fn ft gn gt gm fl o hinj (xs (i + 1)) (xs (i + 2)) (xs (i + 3)) (xs (i + 4)) hbd) (cwV 4 hts gl_X1_compare rfl rfl rfl (by decide +kernel) ⟨Nat.le_of_ble_eq_true rfl, Nat.le_of_ble_eq_true rfl⟩) (nPreV hP hK (va_recv hK hP (ci := 1) (q0 := 3) rfl rfl)) rfl rfl hl.1 rfl (lv_room (Nat.le_of_ble_eq_true rfl)) dL_law_340 ⟨by show _ ≤ 1034; omega, by show _ ≤ 34835; omega⟩) hS (fun q _ h => nA0_ge hge q h) (fun q h => nA0_ge hge q h) (fun r_340_17 _ t H locs ht hvm er_340_17 hB _ _ hS => ?_)
    subst er_340_17
    have hP : va_P (dC, dI) vwCl (nW a k fn ft gn gt gm (nI 1) o) H := by rw [← ht]; exact hB.1
    refine lv_istore (lv' := [(6, .int (nI 0)), (5, .int (nI 1)), (4, .int (nI i)), (0, .ref b), (1, .ref (a 0)), (2, .ref (a 3)), (3, .ref (a 7))]) hx hb dL_law_343 hl (by decide) rfl (fun ls hl => ?_)
    refine lv_aload_n hx hb dL_law_345 rfl (lv_at hl 5 rfl) ?_
    refine vp_callSi (W.runV (As := []) (rest := []) ⟨hx, hb, hml, hown, hts⟩ (m_thrown l dC dI a k fn ft gn gt gm (nI 1) o) (cwV 0 htw gL_law_X1_thrown rfl rfl rfl (by decide +kernel) ⟨Nat.le_of_ble_eq_true rfl, Nat.le_of_ble_eq_true rfl⟩) (nPreV hP hK (va_recv hK hP (ci := 1) (q0 := 3) rfl rfl)) rfl rfl hl.1 rfl (lv_room (Nat.le_of_ble_eq_true rfl)) dL_law_346 ⟨by show _ ≤ 1034; omega, by show _ ≤ 34835; omega⟩) (fun r_346_18 er_346_18 => ?_)
    subst er_346_18
    refine lv_iload hx hb dL_law_349 (lv_at hl 1 rfl) ?_
    refine lv_icmp_eq (tgt := 356) hx hb dL_law_351 (by decide) (fun _ => ?_) (fun c => absurd c (by decide +kernel))
    refine lv_iload hx hb dL_law_356 (lv_at hl 1 rfl) ?_
    refine lv_if_ne (tgt := 373) hx hb dL_law_358 (by decide) (fun _ => ?_) (fun c => absurd c (by decide +kernel))
    refine lv_goto (tgt := 795) hx hb dL_law_373 (by decide) ?_
    exact kk _ _ _ _ _ _ _ _ _ _ hrel hP hS (lv_sub hl [2, 3, 4, 5, 6] rfl)
set_option maxHeartbeats 4000000 in
set_option maxRecDepth 100000 in
theorem law_join {p : Program} {l : Launch} {e : Env} {s : State} {m : MethodId} {below : List Frame} {meth : Method} {c : Code} {b L : Nat} {xs : Nat → Int32} {Q : State → Prop} (hst : l.stackTraces = false) (C0 : lw_At p s m meth c b L xs) {dC : Nat → ClassId} {dI : Nat → Nat → Nat} {a : Nat → Nat} {k : Nat → ClassId} (hinj : nInj a) (hge : ∀ i : Nat, i < 8 → s.heap.size ≤ a i) {sa sb : Nat} (hz : nPz s.heap.size sa sb s) {fn ft gn gt gm : Nat → Int32} {fl : Int32} {o : Nat → Int64} (hrel : nRel fn ft gn gt) {i : Nat} (hi : i + 5 ≤ L) (hL : L ≤ 2560) {H : Heap} {locs : List Loc} (hK : va_K (dC, dI) vwCl (nT k) s) (hP : va_P (dC, dI) vwCl (nW a k fn ft gn gt gm fl o) H) (hS : va_S (fun q => s.heap.size ≤ q) s.heap H locs) {cells slots : Nat} (hc : cells + 1 ≤ 1034) (hs : slots + 6 ≤ 34835) {ls : Array Slot} (hl : lv_has ls 7 (nLoc b a i))
    (kk : ∀ (fn ft gn gt gm : Nat → Int32) (fl : Int32) (o : Nat → Int64) (H : Heap) (locs : List Loc) (ls : Array Slot), nRel fn ft gn gt → va_P (dC, dI) vwCl (nW a k fn ft gn gt gm fl o) H → va_S (fun q => s.heap.size ≤ q) s.heap H locs → lv_has ls 7 (nLoc b a i) → W p l e room_1 s m #[Value.ref b] below meth c H locs (cells + 1) (slots + 6) Q (F0 m 795 ls [])) :
    W p l e room_1 s m #[Value.ref b] below meth c H locs cells slots Q (F0 m 448 ls []) := by
  obtain ⟨hx, hb, hr, hml, hown, hts, hX, hbl, hlocks, hgv⟩ := C0
  have hown : s.vm.findClass RL = some m.cls := hown
  have htw : ∀ w ∈ wsL_law, w.before #[Value.ref b] s = true := fun w hw => hts w (wsL_law_in w hw)
  have hbA : ¬ (fun q : Nat => s.heap.size ≤ q) b := Nat.not_le.mpr hbl
  refine lv_aload_n hx hb dL_law_448 rfl (lv_at hl 2 rfl) ?_
  refine lv_aload_n hx hb dL_law_449 rfl (lv_at hl 1 rfl) ?_
  refine lv_iload hx hb dL_law_450 (lv_at hl 0 rfl) ?_
  refine lv_iconst (v := nI 1) hx hb dL_law_452 (by decide +kernel) ?_
  refine lv_iadd hx hb dL_law_453 ?_
  refine lv_topi (fun x_454_1 ex_454_1 => ?_)
  obtain rfl : x_454_1 = nI (i + 1) := by rw [ex_454_1]; exact nI_add i 1
  refine va_sld (i := nI (i + 1)) hx hb hX hbl hbA hS (vp_in_nI (by omega) (by omega)) dL_law_454 ?_
  refine lv_topi (fun x_455_2 ex_455_2 => ?_)
  obtain rfl : x_455_2 = xs (i + 1) := by rw [ex_455_2]; rw [nI_clamp (show i + 1 < 2 ^ 31 by omega)]
  refine lv_aload_n hx hb dL_law_455 rfl (lv_at hl 1 rfl) ?_
  refine lv_iload hx hb dL_law_456 (lv_at hl 0 rfl) ?_
  refine lv_iconst (v := nI 2) hx hb dL_law_458 (by decide +kernel) ?_
  refine lv_iadd hx hb dL_law_459 ?_
  refine lv_topi (fun x_460_3 ex_460_3 => ?_)
  obtain rfl : x_460_3 = nI (i + 2) := by rw [ex_460_3]; exact nI_add i 2
  refine va_sld (i := nI (i + 2)) hx hb hX hbl hbA hS (vp_in_nI (by omega) (by omega)) dL_law_460 ?_
  refine lv_topi (fun x_461_4 ex_461_4 => ?_)
  obtain rfl : x_461_4 = xs (i + 2) := by rw [ex_461_4]; rw [nI_clamp (show i + 2 < 2 ^ 31 by omega)]
  refine lv_aload_n hx hb dL_law_461 rfl (lv_at hl 1 rfl) ?_
  refine lv_iload hx hb dL_law_462 (lv_at hl 0 rfl) ?_
  refine lv_iconst (v := nI 3) hx hb dL_law_464 (by decide +kernel) ?_
  refine lv_iadd hx hb dL_law_465 ?_
  refine lv_topi (fun x_466_5 ex_466_5 => ?_)
  obtain rfl : x_466_5 = nI (i + 3) := by rw [ex_466_5]; exact nI_add i 3
  refine va_sld (i := nI (i + 3)) hx hb hX hbl hbA hS (vp_in_nI (by omega) (by omega)) dL_law_466 ?_
  refine lv_topi (fun x_467_6 ex_467_6 => ?_)
  obtain rfl : x_467_6 = xs (i + 3) := by rw [ex_467_6]; rw [nI_clamp (show i + 3 < 2 ^ 31 by omega)]
  refine lv_aload_n hx hb dL_law_467 rfl (lv_at hl 1 rfl) ?_
  refine lv_iload hx hb dL_law_468 (lv_at hl 0 rfl) ?_
  refine lv_iconst (v := nI 4) hx hb dL_law_470 (by decide +kernel) ?_
  refine lv_iadd hx hb dL_law_471 ?_
  refine lv_topi (fun x_472_7 ex_472_7 => ?_)
  obtain rfl : x_472_7 = nI (i + 4) := by rw [ex_472_7]; exact nI_add i 4
  refine va_sld (i := nI (i + 4)) hx hb hX hbl hbA hS (vp_in_nI (by omega) (by omega)) dL_law_472 ?_
  refine lv_topi (fun x_473_8 ex_473_8 => ?_)
  obtain rfl : x_473_8 = xs (i + 4) := by rw [ex_473_8]; rw [nI_clamp (show i + 4 < 2 ^ 31 by omega)]
  refine lv_aload_n hx hb dL_law_473 rfl (lv_at hl 4 rfl) ?_
  cases hbd : (nO (xs (i + 1)) 8 || nO (xs (i + 2)) 4 || nO (xs (i + 3)) 8 || nO (xs (i + 4)) 8)
  · obtain ⟨hb0, hb4⟩ := Bool.or_eq_false_iff.mp hbd
    obtain ⟨hb0, hb3⟩ := Bool.or_eq_false_iff.mp hb0
    obtain ⟨hb0, hb2⟩ := Bool.or_eq_false_iff.mp hb0
    have hb1 := hb0
    obtain ⟨tr, htr, etr⟩ := nO_of hb1 (by decide)
    obtain ⟨kd, hkd, ekd⟩ := nO_of hb2 (by decide)
    obtain ⟨p0, hp0, ep0⟩ := nO_of hb3 (by decide)
    obtain ⟨q0, hq0, eq0⟩ := nO_of hb4 (by decide)
    rw [etr, ekd, ep0, eq0]
    refine va_calli (vx_runSW (As := [.ref (a 0), .int (nI tr), .int (nI kd), .int (nI p0), .int (nI q0), .ref (a 7)]) (rest := []) ⟨hx, hb, hml, hown, hts⟩ (w_join l dC dI a k fn ft gn gt gm fl o hinj tr kd p0 q0 htr hkd hp0 hq0) (vx_cwSW 6 htw gL_law_L_join rfl rfl rfl (by decide +kernel) ⟨Nat.le_of_ble_eq_true rfl, Nat.le_of_ble_eq_true rfl⟩) (nPre hP hK) rfl rfl hl.1 rfl (lv_room (Nat.le_of_ble_eq_true rfl)) dL_law_474 ⟨by show _ ≤ 1034; omega, by show _ ≤ 34835; omega⟩) hS (fun q _ h => nA0_ge hge q h) (fun q h => nA0_ge hge q h) (fun r5 _ t H locs ht hvm er5 hB _ _ hS => ?_)
    subst er5
    have hP : va_P (dC, dI) vwCl (nW a k fn (nF ft 0 1024 (nvT ft tr (nyJ ft kd p0 q0))) gn gt gm fl (vp_updL o (nI 0).toNatClampNeg ((nI (nN (nyJ ft kd p0 q0) 1024)).toInt64))) H := by rw [← ht]; exact hB.1
    refine lv_istore (lv' := [(5, .int (nI 0)), (4, .int (nI i)), (0, .ref b), (1, .ref (a 0)), (2, .ref (a 3)), (3, .ref (a 7))]) hx hb dL_law_477 hl (by decide) rfl (fun ls hl => ?_)
    refine lv_aload_n hx hb dL_law_479 rfl (lv_at hl 4 rfl) ?_
    refine lv_aload_n hx hb dL_law_480 rfl (lv_at hl 2 rfl) ?_
    refine lv_iload hx hb dL_law_481 (lv_at hl 1 rfl) ?_
    refine lv_iconst (v := nI 1) hx hb dL_law_483 (by decide +kernel) ?_
    refine lv_iadd hx hb dL_law_484 ?_
    refine lv_topi (fun x_485_9 ex_485_9 => ?_)
    obtain rfl : x_485_9 = nI (i + 1) := by rw [ex_485_9]; exact nI_add i 1
    refine va_sld (i := nI (i + 1)) hx hb hX hbl hbA hS (vp_in_nI (by omega) (by omega)) dL_law_485 ?_
    refine lv_topi (fun x_486_10 ex_486_10 => ?_)
    obtain rfl : x_486_10 = nI tr := by rw [ex_486_10]; rw [nI_clamp (show i + 1 < 2 ^ 31 by omega)]; exact etr
    refine lv_aload_n hx hb dL_law_486 rfl (lv_at hl 2 rfl) ?_
    refine lv_iload hx hb dL_law_487 (lv_at hl 1 rfl) ?_
    refine lv_iconst (v := nI 2) hx hb dL_law_489 (by decide +kernel) ?_
    refine lv_iadd hx hb dL_law_490 ?_
    refine lv_topi (fun x_491_11 ex_491_11 => ?_)
    obtain rfl : x_491_11 = nI (i + 2) := by rw [ex_491_11]; exact nI_add i 2
    refine va_sld (i := nI (i + 2)) hx hb hX hbl hbA hS (vp_in_nI (by omega) (by omega)) dL_law_491 ?_
    refine lv_topi (fun x_492_12 ex_492_12 => ?_)
    obtain rfl : x_492_12 = nI kd := by rw [ex_492_12]; rw [nI_clamp (show i + 2 < 2 ^ 31 by omega)]; exact ekd
    refine lv_aload_n hx hb dL_law_492 rfl (lv_at hl 2 rfl) ?_
    refine lv_iload hx hb dL_law_493 (lv_at hl 1 rfl) ?_
    refine lv_iconst (v := nI 3) hx hb dL_law_495 (by decide +kernel) ?_
    refine lv_iadd hx hb dL_law_496 ?_
    refine lv_topi (fun x_497_13 ex_497_13 => ?_)
    obtain rfl : x_497_13 = nI (i + 3) := by rw [ex_497_13]; exact nI_add i 3
    refine va_sld (i := nI (i + 3)) hx hb hX hbl hbA hS (vp_in_nI (by omega) (by omega)) dL_law_497 ?_
    refine lv_topi (fun x_498_14 ex_498_14 => ?_)
    obtain rfl : x_498_14 = nI p0 := by rw [ex_498_14]; rw [nI_clamp (show i + 3 < 2 ^ 31 by omega)]; exact ep0
    refine lv_aload_n hx hb dL_law_498 rfl (lv_at hl 2 rfl) ?_
    refine lv_iload hx hb dL_law_499 (lv_at hl 1 rfl) ?_
    refine lv_iconst (v := nI 4) hx hb dL_law_501 (by decide +kernel) ?_
    refine lv_iadd hx hb dL_law_502 ?_
    refine lv_topi (fun x_503_15 ex_503_15 => ?_)
    obtain rfl : x_503_15 = nI (i + 4) := by rw [ex_503_15]; exact nI_add i 4
    refine va_sld (i := nI (i + 4)) hx hb hX hbl hbA hS (vp_in_nI (by omega) (by omega)) dL_law_503 ?_
    refine lv_topi (fun x_504_16 ex_504_16 => ?_)
    obtain rfl : x_504_16 = nI q0 := by rw [ex_504_16]; rw [nI_clamp (show i + 4 < 2 ^ 31 by omega)]; exact eq0
    refine va_calli (va_runV (As := [.int (nI tr), .int (nI kd), .int (nI p0), .int (nI q0)]) (rest := []) ⟨hx, hb, hml, hown, hts⟩ (m_join l dC dI a k fn (nF ft 0 1024 (nvT ft tr (nyJ ft kd p0 q0))) gn gt gm fl (vp_updL o (nI 0).toNatClampNeg ((nI (nN (nyJ ft kd p0 q0) 1024)).toInt64)) hinj (fun t w => bt (ft w) t) hrel.2 tr kd p0 q0 htr hkd hp0 hq0) (cwV 4 hts gl_X1_join rfl rfl rfl (by decide +kernel) ⟨Nat.le_of_ble_eq_true rfl, Nat.le_of_ble_eq_true rfl⟩) (nPreV hP hK (va_recv hK hP (ci := 1) (q0 := 3) rfl rfl)) rfl rfl hl.1 rfl (lv_room (Nat.le_of_ble_eq_true rfl)) dL_law_504 ⟨by show _ ≤ 1034; omega, by show _ ≤ 34835; omega⟩) hS (fun q _ h => nA0_ge hge q h) (fun q h => nA0_ge hge q h) (fun r_504_17 _ t H locs ht hvm er_504_17 hB _ _ hS => ?_)
    subst er_504_17
    have hP : va_P (dC, dI) vwCl (nW a k fn (nF ft 0 1024 (nvT ft tr (nyJ ft kd p0 q0))) gn (nF gt (1024 * tr) 1024 (mvB (myJ (fun t w => bt (ft w) t) kd p0 q0))) (nF gm 0 1024 (mvB (myJ (fun t w => bt (ft w) t) kd p0 q0))) (nI 0) (vp_updL o (nI 0).toNatClampNeg ((nI (nN (nyJ ft kd p0 q0) 1024)).toInt64))) H := by rw [← ht]; exact hB.1
    refine lv_istore (lv' := [(6, .int (nI (nN (myJ (fun t w => bt (ft w) t) kd p0 q0) 1024))), (5, .int (nI 0)), (4, .int (nI i)), (0, .ref b), (1, .ref (a 0)), (2, .ref (a 3)), (3, .ref (a 7))]) hx hb dL_law_507 hl (by decide) rfl (fun ls hl => ?_)
    refine lv_aload_n hx hb dL_law_509 rfl (lv_at hl 5 rfl) ?_
    refine vp_callSi (W.runV (As := []) (rest := []) ⟨hx, hb, hml, hown, hts⟩ (m_thrown l dC dI a k fn (nF ft 0 1024 (nvT ft tr (nyJ ft kd p0 q0))) gn (nF gt (1024 * tr) 1024 (mvB (myJ (fun t w => bt (ft w) t) kd p0 q0))) (nF gm 0 1024 (mvB (myJ (fun t w => bt (ft w) t) kd p0 q0))) (nI 0) (vp_updL o (nI 0).toNatClampNeg ((nI (nN (nyJ ft kd p0 q0) 1024)).toInt64))) (cwV 0 htw gL_law_X1_thrown rfl rfl rfl (by decide +kernel) ⟨Nat.le_of_ble_eq_true rfl, Nat.le_of_ble_eq_true rfl⟩) (nPreV hP hK (va_recv hK hP (ci := 1) (q0 := 3) rfl rfl)) rfl rfl hl.1 rfl (lv_room (Nat.le_of_ble_eq_true rfl)) dL_law_510 ⟨by show _ ≤ 1034; omega, by show _ ≤ 34835; omega⟩) (fun r_510_18 er_510_18 => ?_)
    subst er_510_18
    refine lv_iload hx hb dL_law_513 (lv_at hl 1 rfl) ?_
    refine lv_icmp_eq (tgt := 520) hx hb dL_law_515 (by decide) (fun _ => ?_) (fun c => absurd c (by decide +kernel))
    refine lv_iload hx hb dL_law_520 (lv_at hl 1 rfl) ?_
    refine lv_if_ne (tgt := 537) hx hb dL_law_522 (by decide) (fun c => absurd c (by decide +kernel)) (fun _ => ?_)
    refine lv_aload_n hx hb dL_law_525 rfl (lv_at hl 6 rfl) ?_
    refine lv_iconst (v := nI 0) hx hb dL_law_526 (by decide +kernel) ?_
    refine va_lald (i := nI 0) hx hb hK hP 7 5 rfl rfl (vp_in_nI (by omega) (by decide)) dL_law_527 ?_
    refine lv_topl (fun y_527_19 ey_527_19 => ?_)
    obtain rfl : y_527_19 = (nI (nN (nyJ ft kd p0 q0) 1024)).toInt64 := by rw [ey_527_19]; exact pk_uLs
    refine lv_iload hx hb dL_law_528 (lv_at hl 0 rfl) ?_
    refine lv_i2l hx hb dL_law_530 rfl ?_
    refine W.lcmp hx hb dL_law_531 ?_
    refine lv_topi (fun x_532_20 ex_532_20 => ?_)
    obtain rfl : x_532_20 = nI 0 := by rw [ex_532_20]; rw [nN_congr 1024 (nJ_eq (ft := ft) (kd := kd) (p0 := p0) (q0 := q0))]; exact lg_cmp_self _
    refine lv_if_eq (tgt := 537) hx hb dL_law_532 (by decide) (fun _ => ?_) (fun c => absurd c (by decide +kernel))
    refine lv_goto (tgt := 795) hx hb dL_law_537 (by decide) ?_
    refine W.widen (k := cells + 1) (n := slots + 6) (by omega) (by omega) ?_
    exact kk _ _ _ _ _ _ _ _ _ _ (nRel_truth hrel htr nJ_eq) hP hS (lv_sub hl [2, 3, 4, 5, 6] rfl)
  · refine va_calli (vx_runSW (As := [.ref (a 0), .int (xs (i + 1)), .int (xs (i + 2)), .int (xs (i + 3)), .int (xs (i + 4)), .ref (a 7)]) (rest := []) ⟨hx, hb, hml, hown, hts⟩ (wB_join l dC dI a k fn ft gn gt gm fl o hst H.size sa sb (xs (i + 1)) (xs (i + 2)) (xs (i + 3)) (xs (i + 4)) hbd) (vx_cwSW 6 htw gL_law_L_join rfl rfl rfl (by decide +kernel) ⟨Nat.le_of_ble_eq_true rfl, Nat.le_of_ble_eq_true rfl⟩) (nPzw_far hz hS hP hK) rfl rfl hl.1 rfl (lv_room (Nat.le_of_ble_eq_true rfl)) dL_law_474 ⟨by show _ ≤ 1034; omega, by show _ ≤ 34835; omega⟩) hS (fun q _ h => Nat.le_trans hS.1 h) (fun q h => Nat.le_trans hS.1 h) (fun r5 _ t H1 locs1 ht hvm er5 _ _ hk9 hS => ?_)
    subst er5
    have hP : va_P (dC, dI) vwCl (nW a k fn ft gn gt gm fl o) H1 := va_P.kept hP (fun i9 q9 hq9 => hk9 q9.1 (vx_lt hP hq9) (Nat.not_le.mpr (vx_lt hP hq9)))
    refine lv_istore (lv' := [(5, .int (nI 1)), (4, .int (nI i)), (0, .ref b), (1, .ref (a 0)), (2, .ref (a 3)), (3, .ref (a 7))]) hx hb dL_law_477 hl (by decide) rfl (fun ls hl => ?_)
    refine lv_aload_n hx hb dL_law_479 rfl (lv_at hl 4 rfl) ?_
    refine lv_aload_n hx hb dL_law_480 rfl (lv_at hl 2 rfl) ?_
    refine lv_iload hx hb dL_law_481 (lv_at hl 1 rfl) ?_
    refine lv_iconst (v := nI 1) hx hb dL_law_483 (by decide +kernel) ?_
    refine lv_iadd hx hb dL_law_484 ?_
    refine lv_topi (fun x_485_9 ex_485_9 => ?_)
    obtain rfl : x_485_9 = nI (i + 1) := by rw [ex_485_9]; exact nI_add i 1
    refine va_sld (i := nI (i + 1)) hx hb hX hbl hbA hS (vp_in_nI (by omega) (by omega)) dL_law_485 ?_
    refine lv_topi (fun x_486_10 ex_486_10 => ?_)
    obtain rfl : x_486_10 = xs (i + 1) := by rw [ex_486_10]; rw [nI_clamp (show i + 1 < 2 ^ 31 by omega)]
    refine lv_aload_n hx hb dL_law_486 rfl (lv_at hl 2 rfl) ?_
    refine lv_iload hx hb dL_law_487 (lv_at hl 1 rfl) ?_
    refine lv_iconst (v := nI 2) hx hb dL_law_489 (by decide +kernel) ?_
    refine lv_iadd hx hb dL_law_490 ?_
    refine lv_topi (fun x_491_11 ex_491_11 => ?_)
    obtain rfl : x_491_11 = nI (i + 2) := by rw [ex_491_11]; exact nI_add i 2
    refine va_sld (i := nI (i + 2)) hx hb hX hbl hbA hS (vp_in_nI (by omega) (by omega)) dL_law_491 ?_
    refine lv_topi (fun x_492_12 ex_492_12 => ?_)
    obtain rfl : x_492_12 = xs (i + 2) := by rw [ex_492_12]; rw [nI_clamp (show i + 2 < 2 ^ 31 by omega)]
    refine lv_aload_n hx hb dL_law_492 rfl (lv_at hl 2 rfl) ?_
    refine lv_iload hx hb dL_law_493 (lv_at hl 1 rfl) ?_
    refine lv_iconst (v := nI 3) hx hb dL_law_495 (by decide +kernel) ?_
    refine lv_iadd hx hb dL_law_496 ?_
    refine lv_topi (fun x_497_13 ex_497_13 => ?_)
    obtain rfl : x_497_13 = nI (i + 3) := by rw [ex_497_13]; exact nI_add i 3
    refine va_sld (i := nI (i + 3)) hx hb hX hbl hbA hS (vp_in_nI (by omega) (by omega)) dL_law_497 ?_
    refine lv_topi (fun x_498_14 ex_498_14 => ?_)
    obtain rfl : x_498_14 = xs (i + 3) := by rw [ex_498_14]; rw [nI_clamp (show i + 3 < 2 ^ 31 by omega)]
    refine lv_aload_n hx hb dL_law_498 rfl (lv_at hl 2 rfl) ?_
    refine lv_iload hx hb dL_law_499 (lv_at hl 1 rfl) ?_
    refine lv_iconst (v := nI 4) hx hb dL_law_501 (by decide +kernel) ?_
    refine lv_iadd hx hb dL_law_502 ?_
    refine lv_topi (fun x_503_15 ex_503_15 => ?_)
    obtain rfl : x_503_15 = nI (i + 4) := by rw [ex_503_15]; exact nI_add i 4
    refine va_sld (i := nI (i + 4)) hx hb hX hbl hbA hS (vp_in_nI (by omega) (by omega)) dL_law_503 ?_
    refine lv_topi (fun x_504_16 ex_504_16 => ?_)
    obtain rfl : x_504_16 = xs (i + 4) := by rw [ex_504_16]; rw [nI_clamp (show i + 4 < 2 ^ 31 by omega)]
    refine va_calli (va_runV (As := [.int (xs (i + 1)), .int (xs (i + 2)), .int (xs (i + 3)), .int (xs (i + 4))]) (rest := []) ⟨hx, hb, hml, hown, hts⟩ (m_joinB l dC dI a k fn ft gn gt gm fl o hinj (xs (i + 1)) (xs (i + 2)) (xs (i + 3)) (xs (i + 4)) hbd) (cwV 4 hts gl_X1_join rfl rfl rfl (by decide +kernel) ⟨Nat.le_of_ble_eq_true rfl, Nat.le_of_ble_eq_true rfl⟩) (nPreV hP hK (va_recv hK hP (ci := 1) (q0 := 3) rfl rfl)) rfl rfl hl.1 rfl (lv_room (Nat.le_of_ble_eq_true rfl)) dL_law_504 ⟨by show _ ≤ 1034; omega, by show _ ≤ 34835; omega⟩) hS (fun q _ h => nA0_ge hge q h) (fun q h => nA0_ge hge q h) (fun r_504_17 _ t H locs ht hvm er_504_17 hB _ _ hS => ?_)
    subst er_504_17
    have hP : va_P (dC, dI) vwCl (nW a k fn ft gn gt gm (nI 1) o) H := by rw [← ht]; exact hB.1
    refine lv_istore (lv' := [(6, .int (nI 0)), (5, .int (nI 1)), (4, .int (nI i)), (0, .ref b), (1, .ref (a 0)), (2, .ref (a 3)), (3, .ref (a 7))]) hx hb dL_law_507 hl (by decide) rfl (fun ls hl => ?_)
    refine lv_aload_n hx hb dL_law_509 rfl (lv_at hl 5 rfl) ?_
    refine vp_callSi (W.runV (As := []) (rest := []) ⟨hx, hb, hml, hown, hts⟩ (m_thrown l dC dI a k fn ft gn gt gm (nI 1) o) (cwV 0 htw gL_law_X1_thrown rfl rfl rfl (by decide +kernel) ⟨Nat.le_of_ble_eq_true rfl, Nat.le_of_ble_eq_true rfl⟩) (nPreV hP hK (va_recv hK hP (ci := 1) (q0 := 3) rfl rfl)) rfl rfl hl.1 rfl (lv_room (Nat.le_of_ble_eq_true rfl)) dL_law_510 ⟨by show _ ≤ 1034; omega, by show _ ≤ 34835; omega⟩) (fun r_510_18 er_510_18 => ?_)
    subst er_510_18
    refine lv_iload hx hb dL_law_513 (lv_at hl 1 rfl) ?_
    refine lv_icmp_eq (tgt := 520) hx hb dL_law_515 (by decide) (fun _ => ?_) (fun c => absurd c (by decide +kernel))
    refine lv_iload hx hb dL_law_520 (lv_at hl 1 rfl) ?_
    refine lv_if_ne (tgt := 537) hx hb dL_law_522 (by decide) (fun _ => ?_) (fun c => absurd c (by decide +kernel))
    refine lv_goto (tgt := 795) hx hb dL_law_537 (by decide) ?_
    exact kk _ _ _ _ _ _ _ _ _ _ hrel hP hS (lv_sub hl [2, 3, 4, 5, 6] rfl)
set_option maxHeartbeats 4000000 in
set_option maxRecDepth 100000 in
theorem law_value {p : Program} {l : Launch} {e : Env} {s : State} {m : MethodId} {below : List Frame} {meth : Method} {c : Code} {b L : Nat} {xs : Nat → Int32} {Q : State → Prop} (hst : l.stackTraces = false) (C0 : lw_At p s m meth c b L xs) {dC : Nat → ClassId} {dI : Nat → Nat → Nat} {a : Nat → Nat} {k : Nat → ClassId} (hinj : nInj a) (hge : ∀ i : Nat, i < 8 → s.heap.size ≤ a i) {sa sb : Nat} (hz : nPz s.heap.size sa sb s) {fn ft gn gt gm : Nat → Int32} {fl : Int32} {o : Nat → Int64} (hrel : nRel fn ft gn gt) {i : Nat} (hi : i + 5 ≤ L) (hL : L ≤ 2560) {H : Heap} {locs : List Loc} (hK : va_K (dC, dI) vwCl (nT k) s) (hP : va_P (dC, dI) vwCl (nW a k fn ft gn gt gm fl o) H) (hS : va_S (fun q => s.heap.size ≤ q) s.heap H locs) {cells slots : Nat} (hc : cells + 1 ≤ 1034) (hs : slots + 6 ≤ 34835) {ls : Array Slot} (hl : lv_has ls 7 (nLoc b a i))
    (kk : ∀ (fn ft gn gt gm : Nat → Int32) (fl : Int32) (o : Nat → Int64) (H : Heap) (locs : List Loc) (ls : Array Slot), nRel fn ft gn gt → va_P (dC, dI) vwCl (nW a k fn ft gn gt gm fl o) H → va_S (fun q => s.heap.size ≤ q) s.heap H locs → lv_has ls 7 (nLoc b a i) → W p l e room_1 s m #[Value.ref b] below meth c H locs (cells + 1) (slots + 6) Q (F0 m 795 ls [])) :
    W p l e room_1 s m #[Value.ref b] below meth c H locs cells slots Q (F0 m 540 ls []) := by
  obtain ⟨hx, hb, hr, hml, hown, hts, hX, hbl, hlocks, hgv⟩ := C0
  have hown : s.vm.findClass RL = some m.cls := hown
  have htw : ∀ w ∈ wsL_law, w.before #[Value.ref b] s = true := fun w hw => hts w (wsL_law_in w hw)
  have hbA : ¬ (fun q : Nat => s.heap.size ≤ q) b := Nat.not_le.mpr hbl
  refine lv_aload_n hx hb dL_law_540 rfl (lv_at hl 2 rfl) ?_
  refine lv_aload_n hx hb dL_law_541 rfl (lv_at hl 1 rfl) ?_
  refine lv_iload hx hb dL_law_542 (lv_at hl 0 rfl) ?_
  refine lv_iconst (v := nI 1) hx hb dL_law_544 (by decide +kernel) ?_
  refine lv_iadd hx hb dL_law_545 ?_
  refine lv_topi (fun x_546_1 ex_546_1 => ?_)
  obtain rfl : x_546_1 = nI (i + 1) := by rw [ex_546_1]; exact nI_add i 1
  refine va_sld (i := nI (i + 1)) hx hb hX hbl hbA hS (vp_in_nI (by omega) (by omega)) dL_law_546 ?_
  refine lv_topi (fun x_547_2 ex_547_2 => ?_)
  obtain rfl : x_547_2 = xs (i + 1) := by rw [ex_547_2]; rw [nI_clamp (show i + 1 < 2 ^ 31 by omega)]
  refine lv_aload_n hx hb dL_law_547 rfl (lv_at hl 1 rfl) ?_
  refine lv_iload hx hb dL_law_548 (lv_at hl 0 rfl) ?_
  refine lv_iconst (v := nI 2) hx hb dL_law_550 (by decide +kernel) ?_
  refine lv_iadd hx hb dL_law_551 ?_
  refine lv_topi (fun x_552_3 ex_552_3 => ?_)
  obtain rfl : x_552_3 = nI (i + 2) := by rw [ex_552_3]; exact nI_add i 2
  refine va_sld (i := nI (i + 2)) hx hb hX hbl hbA hS (vp_in_nI (by omega) (by omega)) dL_law_552 ?_
  refine lv_topi (fun x_553_4 ex_553_4 => ?_)
  obtain rfl : x_553_4 = xs (i + 2) := by rw [ex_553_4]; rw [nI_clamp (show i + 2 < 2 ^ 31 by omega)]
  refine lv_aload_n hx hb dL_law_553 rfl (lv_at hl 4 rfl) ?_
  cases hbd : (nO (xs (i + 1)) 8 || nO (xs (i + 2)) 1024)
  · obtain ⟨hb0, hb2⟩ := Bool.or_eq_false_iff.mp hbd
    have hb1 := hb0
    obtain ⟨sl, hsl, esl⟩ := nO_of hb1 (by decide)
    obtain ⟨wy, hwy, ewy⟩ := nO_of hb2 (by decide)
    rw [esl, ewy]
    refine va_calli (vx_runSW (As := [.ref (a 0), .int (nI sl), .int (nI wy), .ref (a 7)]) (rest := []) ⟨hx, hb, hml, hown, hts⟩ (w_value l dC dI a k fn ft gn gt gm fl o hinj sl wy hsl hwy) (vx_cwSW 4 htw gL_law_L_value rfl rfl rfl (by decide +kernel) ⟨Nat.le_of_ble_eq_true rfl, Nat.le_of_ble_eq_true rfl⟩) (nPre hP hK) rfl rfl hl.1 rfl (lv_room (Nat.le_of_ble_eq_true rfl)) dL_law_554 ⟨by show _ ≤ 1034; omega, by show _ ≤ 34835; omega⟩) hS (fun q _ h => nA0_ge hge q h) (fun q h => nA0_ge hge q h) (fun r5 _ t H locs ht hvm er5 hB _ _ hS => ?_)
    subst er5
    have hP : va_P (dC, dI) vwCl (nW a k fn ft gn gt gm fl (vp_updL o (nI 0).toNatClampNeg ((fn (1024 * sl + wy)).toInt64))) H := by rw [← ht]; exact hB.1
    refine lv_istore (lv' := [(5, .int (nI 0)), (4, .int (nI i)), (0, .ref b), (1, .ref (a 0)), (2, .ref (a 3)), (3, .ref (a 7))]) hx hb dL_law_557 hl (by decide) rfl (fun ls hl => ?_)
    refine lv_aload_n hx hb dL_law_559 rfl (lv_at hl 4 rfl) ?_
    refine lv_aload_n hx hb dL_law_560 rfl (lv_at hl 2 rfl) ?_
    refine lv_iload hx hb dL_law_561 (lv_at hl 1 rfl) ?_
    refine lv_iconst (v := nI 1) hx hb dL_law_563 (by decide +kernel) ?_
    refine lv_iadd hx hb dL_law_564 ?_
    refine lv_topi (fun x_565_5 ex_565_5 => ?_)
    obtain rfl : x_565_5 = nI (i + 1) := by rw [ex_565_5]; exact nI_add i 1
    refine va_sld (i := nI (i + 1)) hx hb hX hbl hbA hS (vp_in_nI (by omega) (by omega)) dL_law_565 ?_
    refine lv_topi (fun x_566_6 ex_566_6 => ?_)
    obtain rfl : x_566_6 = nI sl := by rw [ex_566_6]; rw [nI_clamp (show i + 1 < 2 ^ 31 by omega)]; exact esl
    refine lv_aload_n hx hb dL_law_566 rfl (lv_at hl 2 rfl) ?_
    refine lv_iload hx hb dL_law_567 (lv_at hl 1 rfl) ?_
    refine lv_iconst (v := nI 2) hx hb dL_law_569 (by decide +kernel) ?_
    refine lv_iadd hx hb dL_law_570 ?_
    refine lv_topi (fun x_571_7 ex_571_7 => ?_)
    obtain rfl : x_571_7 = nI (i + 2) := by rw [ex_571_7]; exact nI_add i 2
    refine va_sld (i := nI (i + 2)) hx hb hX hbl hbA hS (vp_in_nI (by omega) (by omega)) dL_law_571 ?_
    refine lv_topi (fun x_572_8 ex_572_8 => ?_)
    obtain rfl : x_572_8 = nI wy := by rw [ex_572_8]; rw [nI_clamp (show i + 2 < 2 ^ 31 by omega)]; exact ewy
    refine va_calli (va_runV (As := [.int (nI sl), .int (nI wy)]) (rest := []) ⟨hx, hb, hml, hown, hts⟩ (m_value l dC dI a k fn ft gn gt gm fl (vp_updL o (nI 0).toNatClampNeg ((fn (1024 * sl + wy)).toInt64)) hinj sl wy hsl hwy) (cwV 2 hts gl_X1_value rfl rfl rfl (by decide +kernel) ⟨Nat.le_of_ble_eq_true rfl, Nat.le_of_ble_eq_true rfl⟩) (nPreV hP hK (va_recv hK hP (ci := 1) (q0 := 3) rfl rfl)) rfl rfl hl.1 rfl (lv_room (Nat.le_of_ble_eq_true rfl)) dL_law_572 ⟨by show _ ≤ 1034; omega, by show _ ≤ 34835; omega⟩) hS (fun q _ h => nA0_ge hge q h) (fun q h => nA0_ge hge q h) (fun r_572_9 _ t H locs ht hvm er_572_9 hB _ _ hS => ?_)
    subst er_572_9
    have hP : va_P (dC, dI) vwCl (nW a k fn ft gn gt gm (nI 0) (vp_updL o (nI 0).toNatClampNeg ((fn (1024 * sl + wy)).toInt64))) H := by rw [← ht]; exact hB.1
    refine lv_istore (lv' := [(6, .int (gn (1024 * sl + wy))), (5, .int (nI 0)), (4, .int (nI i)), (0, .ref b), (1, .ref (a 0)), (2, .ref (a 3)), (3, .ref (a 7))]) hx hb dL_law_575 hl (by decide) rfl (fun ls hl => ?_)
    refine lv_aload_n hx hb dL_law_577 rfl (lv_at hl 5 rfl) ?_
    refine vp_callSi (W.runV (As := []) (rest := []) ⟨hx, hb, hml, hown, hts⟩ (m_thrown l dC dI a k fn ft gn gt gm (nI 0) (vp_updL o (nI 0).toNatClampNeg ((fn (1024 * sl + wy)).toInt64))) (cwV 0 htw gL_law_X1_thrown rfl rfl rfl (by decide +kernel) ⟨Nat.le_of_ble_eq_true rfl, Nat.le_of_ble_eq_true rfl⟩) (nPreV hP hK (va_recv hK hP (ci := 1) (q0 := 3) rfl rfl)) rfl rfl hl.1 rfl (lv_room (Nat.le_of_ble_eq_true rfl)) dL_law_578 ⟨by show _ ≤ 1034; omega, by show _ ≤ 34835; omega⟩) (fun r_578_10 er_578_10 => ?_)
    subst er_578_10
    refine lv_iload hx hb dL_law_581 (lv_at hl 1 rfl) ?_
    refine lv_icmp_eq (tgt := 588) hx hb dL_law_583 (by decide) (fun _ => ?_) (fun c => absurd c (by decide +kernel))
    refine lv_iload hx hb dL_law_588 (lv_at hl 1 rfl) ?_
    refine lv_if_ne (tgt := 605) hx hb dL_law_590 (by decide) (fun c => absurd c (by decide +kernel)) (fun _ => ?_)
    refine lv_aload_n hx hb dL_law_593 rfl (lv_at hl 6 rfl) ?_
    refine lv_iconst (v := nI 0) hx hb dL_law_594 (by decide +kernel) ?_
    refine va_lald (i := nI 0) hx hb hK hP 7 5 rfl rfl (vp_in_nI (by omega) (by decide)) dL_law_595 ?_
    refine lv_topl (fun y_595_11 ey_595_11 => ?_)
    obtain rfl : y_595_11 = (fn (1024 * sl + wy)).toInt64 := by rw [ey_595_11]; exact pk_uLs
    refine lv_iload hx hb dL_law_596 (lv_at hl 0 rfl) ?_
    refine lv_i2l hx hb dL_law_598 rfl ?_
    refine W.lcmp hx hb dL_law_599 ?_
    refine lv_topi (fun x_600_12 ex_600_12 => ?_)
    obtain rfl : x_600_12 = nI 0 := by rw [ex_600_12]; rw [(nRel_at hrel hsl hwy).1]; exact lg_cmp_self _
    refine lv_if_eq (tgt := 605) hx hb dL_law_600 (by decide) (fun _ => ?_) (fun c => absurd c (by decide +kernel))
    refine lv_goto (tgt := 795) hx hb dL_law_605 (by decide) ?_
    refine W.widen (k := cells + 1) (n := slots + 6) (by omega) (by omega) ?_
    exact kk _ _ _ _ _ _ _ _ _ _ hrel hP hS (lv_sub hl [2, 3, 4, 5, 6] rfl)
  · refine va_calli (vx_runSW (As := [.ref (a 0), .int (xs (i + 1)), .int (xs (i + 2)), .ref (a 7)]) (rest := []) ⟨hx, hb, hml, hown, hts⟩ (wB_value l dC dI a k fn ft gn gt gm fl o hst H.size sa sb (xs (i + 1)) (xs (i + 2)) hbd) (vx_cwSW 4 htw gL_law_L_value rfl rfl rfl (by decide +kernel) ⟨Nat.le_of_ble_eq_true rfl, Nat.le_of_ble_eq_true rfl⟩) (nPzw_far hz hS hP hK) rfl rfl hl.1 rfl (lv_room (Nat.le_of_ble_eq_true rfl)) dL_law_554 ⟨by show _ ≤ 1034; omega, by show _ ≤ 34835; omega⟩) hS (fun q _ h => Nat.le_trans hS.1 h) (fun q h => Nat.le_trans hS.1 h) (fun r5 _ t H1 locs1 ht hvm er5 _ _ hk9 hS => ?_)
    subst er5
    have hP : va_P (dC, dI) vwCl (nW a k fn ft gn gt gm fl o) H1 := va_P.kept hP (fun i9 q9 hq9 => hk9 q9.1 (vx_lt hP hq9) (Nat.not_le.mpr (vx_lt hP hq9)))
    refine lv_istore (lv' := [(5, .int (nI 1)), (4, .int (nI i)), (0, .ref b), (1, .ref (a 0)), (2, .ref (a 3)), (3, .ref (a 7))]) hx hb dL_law_557 hl (by decide) rfl (fun ls hl => ?_)
    refine lv_aload_n hx hb dL_law_559 rfl (lv_at hl 4 rfl) ?_
    refine lv_aload_n hx hb dL_law_560 rfl (lv_at hl 2 rfl) ?_
    refine lv_iload hx hb dL_law_561 (lv_at hl 1 rfl) ?_
    refine lv_iconst (v := nI 1) hx hb dL_law_563 (by decide +kernel) ?_
    refine lv_iadd hx hb dL_law_564 ?_
    refine lv_topi (fun x_565_5 ex_565_5 => ?_)
    obtain rfl : x_565_5 = nI (i + 1) := by rw [ex_565_5]; exact nI_add i 1
    refine va_sld (i := nI (i + 1)) hx hb hX hbl hbA hS (vp_in_nI (by omega) (by omega)) dL_law_565 ?_
    refine lv_topi (fun x_566_6 ex_566_6 => ?_)
    obtain rfl : x_566_6 = xs (i + 1) := by rw [ex_566_6]; rw [nI_clamp (show i + 1 < 2 ^ 31 by omega)]
    refine lv_aload_n hx hb dL_law_566 rfl (lv_at hl 2 rfl) ?_
    refine lv_iload hx hb dL_law_567 (lv_at hl 1 rfl) ?_
    refine lv_iconst (v := nI 2) hx hb dL_law_569 (by decide +kernel) ?_
    refine lv_iadd hx hb dL_law_570 ?_
    refine lv_topi (fun x_571_7 ex_571_7 => ?_)
    obtain rfl : x_571_7 = nI (i + 2) := by rw [ex_571_7]; exact nI_add i 2
    refine va_sld (i := nI (i + 2)) hx hb hX hbl hbA hS (vp_in_nI (by omega) (by omega)) dL_law_571 ?_
    refine lv_topi (fun x_572_8 ex_572_8 => ?_)
    obtain rfl : x_572_8 = xs (i + 2) := by rw [ex_572_8]; rw [nI_clamp (show i + 2 < 2 ^ 31 by omega)]
    refine va_calli (va_runV (As := [.int (xs (i + 1)), .int (xs (i + 2))]) (rest := []) ⟨hx, hb, hml, hown, hts⟩ (m_valueB l dC dI a k fn ft gn gt gm fl o hinj (xs (i + 1)) (xs (i + 2)) hbd) (cwV 2 hts gl_X1_value rfl rfl rfl (by decide +kernel) ⟨Nat.le_of_ble_eq_true rfl, Nat.le_of_ble_eq_true rfl⟩) (nPreV hP hK (va_recv hK hP (ci := 1) (q0 := 3) rfl rfl)) rfl rfl hl.1 rfl (lv_room (Nat.le_of_ble_eq_true rfl)) dL_law_572 ⟨by show _ ≤ 1034; omega, by show _ ≤ 34835; omega⟩) hS (fun q _ h => nA0_ge hge q h) (fun q h => nA0_ge hge q h) (fun r_572_9 _ t H locs ht hvm er_572_9 hB _ _ hS => ?_)
    subst er_572_9
    have hP : va_P (dC, dI) vwCl (nW a k fn ft gn gt gm (nI 1) o) H := by rw [← ht]; exact hB.1
    refine lv_istore (lv' := [(6, .int (nI 0)), (5, .int (nI 1)), (4, .int (nI i)), (0, .ref b), (1, .ref (a 0)), (2, .ref (a 3)), (3, .ref (a 7))]) hx hb dL_law_575 hl (by decide) rfl (fun ls hl => ?_)
    refine lv_aload_n hx hb dL_law_577 rfl (lv_at hl 5 rfl) ?_
    refine vp_callSi (W.runV (As := []) (rest := []) ⟨hx, hb, hml, hown, hts⟩ (m_thrown l dC dI a k fn ft gn gt gm (nI 1) o) (cwV 0 htw gL_law_X1_thrown rfl rfl rfl (by decide +kernel) ⟨Nat.le_of_ble_eq_true rfl, Nat.le_of_ble_eq_true rfl⟩) (nPreV hP hK (va_recv hK hP (ci := 1) (q0 := 3) rfl rfl)) rfl rfl hl.1 rfl (lv_room (Nat.le_of_ble_eq_true rfl)) dL_law_578 ⟨by show _ ≤ 1034; omega, by show _ ≤ 34835; omega⟩) (fun r_578_10 er_578_10 => ?_)
    subst er_578_10
    refine lv_iload hx hb dL_law_581 (lv_at hl 1 rfl) ?_
    refine lv_icmp_eq (tgt := 588) hx hb dL_law_583 (by decide) (fun _ => ?_) (fun c => absurd c (by decide +kernel))
    refine lv_iload hx hb dL_law_588 (lv_at hl 1 rfl) ?_
    refine lv_if_ne (tgt := 605) hx hb dL_law_590 (by decide) (fun _ => ?_) (fun c => absurd c (by decide +kernel))
    refine lv_goto (tgt := 795) hx hb dL_law_605 (by decide) ?_
    exact kk _ _ _ _ _ _ _ _ _ _ hrel hP hS (lv_sub hl [2, 3, 4, 5, 6] rfl)
