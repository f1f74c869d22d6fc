set_option maxHeartbeats 4000000 in
set_option maxRecDepth 100000 in
theorem law_way {p : Program} {l : Launch} {e : Env} {s : State} {m : MethodId} {below : List Frame} {meth : Method} {c : Code} {b L : Nat} {xs : Nat → Int32} {Q : State → Prop} (hst : l.stackTraces = false) (C0 : lw_At p s m meth c b L xs) {dC : Nat → ClassId} {dI : Nat → Nat → Nat} {a : Nat → Nat} {k : Nat → ClassId} (hinj : nInj a) (hge : ∀ i : Nat, i < 8 → s.heap.size ≤ a i) {sa sb : Nat} (hz : nPz s.heap.size sa sb s) {fn ft gn gt gm : Nat → Int32} {fl : Int32} {o : Nat → Int64} (hrel : nRel fn ft gn gt) {i : Nat} (hi : i + 5 ≤ L) (hL : L ≤ 2560) {H : Heap} {locs : List Loc} (hK : va_K (dC, dI) vwCl (nT k) s) (hP : va_P (dC, dI) vwCl (nW a k fn ft gn gt gm fl o) H) (hS : va_S (fun q => s.heap.size ≤ q) s.heap H locs) {cells slots : Nat} (hc : cells + 1 ≤ 1034) (hs : slots + 6 ≤ 34835) {ls : Array Slot} (hl : lv_has ls 7 (nLoc b a i))
    (kk : ∀ (fn ft gn gt gm : Nat → Int32) (fl : Int32) (o : Nat → Int64) (H : Heap) (locs : List Loc) (ls : Array Slot), nRel fn ft gn gt → va_P (dC, dI) vwCl (nW a k fn ft gn gt gm fl o) H → va_S (fun q => s.heap.size ≤ q) s.heap H locs → lv_has ls 7 (nLoc b a i) → W p l e room_1 s m #[Value.ref b] below meth c H locs (cells + 1) (slots + 6) Q (F0 m 795 ls [])) :
    W p l e room_1 s m #[Value.ref b] below meth c H locs cells slots Q (F0 m 608 ls []) := by
  obtain ⟨hx, hb, hr, hml, hown, hts, hX, hbl, hlocks, hgv⟩ := C0
  have hown : s.vm.findClass RL = some m.cls := hown
  have htw : ∀ w ∈ wsL_law, w.before #[Value.ref b] s = true := fun w hw => hts w (wsL_law_in w hw)
  have hbA : ¬ (fun q : Nat => s.heap.size ≤ q) b := Nat.not_le.mpr hbl
  refine lv_aload_n hx hb dL_law_608 rfl (lv_at hl 2 rfl) ?_
  refine lv_aload_n hx hb dL_law_609 rfl (lv_at hl 1 rfl) ?_
  refine lv_iload hx hb dL_law_610 (lv_at hl 0 rfl) ?_
  refine lv_iconst (v := nI 1) hx hb dL_law_612 (by decide +kernel) ?_
  refine lv_iadd hx hb dL_law_613 ?_
  refine lv_topi (fun x_614_1 ex_614_1 => ?_)
  obtain rfl : x_614_1 = nI (i + 1) := by rw [ex_614_1]; exact nI_add i 1
  refine va_sld (i := nI (i + 1)) hx hb hX hbl hbA hS (vp_in_nI (by omega) (by omega)) dL_law_614 ?_
  refine lv_topi (fun x_615_2 ex_615_2 => ?_)
  obtain rfl : x_615_2 = xs (i + 1) := by rw [ex_615_2]; rw [nI_clamp (show i + 1 < 2 ^ 31 by omega)]
  refine lv_aload_n hx hb dL_law_615 rfl (lv_at hl 4 rfl) ?_
  cases hbd : (nO (xs (i + 1)) 8)
  · have hb1 := hbd
    obtain ⟨tr, htr, etr⟩ := nO_of hb1 (by decide)
    rw [etr]
    by_cases hex : ∃ w : Nat, w < 1024 ∧ bt (ft w) tr = true
    · obtain ⟨w0, ⟨hw0, hy0⟩, hmin⟩ := pk_least _ hex
      have hn0 : ∀ j, j < w0 → bt (ft j) tr = false := fun j hj => by
        cases hq : bt (ft j) tr with
        | false => rfl
        | true => exact absurd ⟨by omega, hq⟩ (hmin j hj)
      refine va_calli (vx_runSW (As := [.ref (a 0), .int (nI tr), .ref (a 7)]) (rest := []) ⟨hx, hb, hml, hown, hts⟩ (w_way l dC dI a k fn ft gn gt gm fl o hinj tr w0 htr hw0 hy0 hn0) (vx_cwSW 3 htw gL_law_L_way rfl rfl rfl (by decide +kernel) ⟨Nat.le_of_ble_eq_true rfl, Nat.le_of_ble_eq_true rfl⟩) (nPre hP hK) rfl rfl hl.1 rfl (lv_room (Nat.le_of_ble_eq_true rfl)) dL_law_616 ⟨by show _ ≤ 1034; omega, by show _ ≤ 34835; omega⟩) hS (fun q _ h => nA0_ge hge q h) (fun q h => nA0_ge hge q h) (fun r5 _ t H locs ht hvm er5 hB _ _ hS => ?_)
      subst er5
      have hP : va_P (dC, dI) vwCl (nW a k fn ft gn gt gm fl (vp_updL o (nI 0).toNatClampNeg ((nI w0).toInt64))) H := by rw [← ht]; exact hB.1
      refine lv_istore (lv' := [(5, .int (nI 0)), (4, .int (nI i)), (0, .ref b), (1, .ref (a 0)), (2, .ref (a 3)), (3, .ref (a 7))]) hx hb dL_law_619 hl (by decide) rfl (fun ls hl => ?_)
      refine lv_aload_n hx hb dL_law_621 rfl (lv_at hl 4 rfl) ?_
      refine lv_aload_n hx hb dL_law_622 rfl (lv_at hl 2 rfl) ?_
      refine lv_iload hx hb dL_law_623 (lv_at hl 1 rfl) ?_
      refine lv_iconst (v := nI 1) hx hb dL_law_625 (by decide +kernel) ?_
      refine lv_iadd hx hb dL_law_626 ?_
      refine lv_topi (fun x_627_3 ex_627_3 => ?_)
      obtain rfl : x_627_3 = nI (i + 1) := by rw [ex_627_3]; exact nI_add i 1
      refine va_sld (i := nI (i + 1)) hx hb hX hbl hbA hS (vp_in_nI (by omega) (by omega)) dL_law_627 ?_
      refine lv_topi (fun x_628_4 ex_628_4 => ?_)
      obtain rfl : x_628_4 = nI tr := by rw [ex_628_4]; rw [nI_clamp (show i + 1 < 2 ^ 31 by omega)]; exact etr
      refine va_calli (va_runV (As := [.int (nI tr)]) (rest := []) ⟨hx, hb, hml, hown, hts⟩ (m_way l dC dI a k fn ft gn gt gm fl (vp_updL o (nI 0).toNatClampNeg ((nI w0).toInt64)) hinj (fun t w => bt (ft w) t) hrel.2 tr w0 htr hw0 hy0 hn0) (cwV 1 hts gl_X1_way rfl rfl rfl (by decide +kernel) ⟨Nat.le_of_ble_eq_true rfl, Nat.le_of_ble_eq_true rfl⟩) (nPreV hP hK (va_recv hK hP (ci := 1) (q0 := 3) rfl rfl)) rfl rfl hl.1 rfl (lv_room (Nat.le_of_ble_eq_true rfl)) dL_law_628 ⟨by show _ ≤ 1034; omega, by show _ ≤ 34835; omega⟩) hS (fun q _ h => nA0_ge hge q h) (fun q h => nA0_ge hge q h) (fun r_628_5 _ t H locs ht hvm er_628_5 hB _ _ hS => ?_)
      subst er_628_5
      have hP : va_P (dC, dI) vwCl (nW a k fn ft gn gt gm (nI 0) (vp_updL o (nI 0).toNatClampNeg ((nI w0).toInt64))) H := by rw [← ht]; exact hB.1
      refine lv_istore (lv' := [(6, .int (nI w0)), (5, .int (nI 0)), (4, .int (nI i)), (0, .ref b), (1, .ref (a 0)), (2, .ref (a 3)), (3, .ref (a 7))]) hx hb dL_law_631 hl (by decide) rfl (fun ls hl => ?_)
      refine lv_aload_n hx hb dL_law_633 rfl (lv_at hl 5 rfl) ?_
      refine vp_callSi (W.runV (As := []) (rest := []) ⟨hx, hb, hml, hown, hts⟩ (m_thrown l dC dI a k fn ft gn gt gm (nI 0) (vp_updL o (nI 0).toNatClampNeg ((nI w0).toInt64))) (cwV 0 htw gL_law_X1_thrown rfl rfl rfl (by decide +kernel) ⟨Nat.le_of_ble_eq_true rfl, Nat.le_of_ble_eq_true rfl⟩) (nPreV hP hK (va_recv hK hP (ci := 1) (q0 := 3) rfl rfl)) rfl rfl hl.1 rfl (lv_room (Nat.le_of_ble_eq_true rfl)) dL_law_634 ⟨by show _ ≤ 1034; omega, by show _ ≤ 34835; omega⟩) (fun r_634_6 er_634_6 => ?_)
      subst er_634_6
      refine lv_iload hx hb dL_law_637 (lv_at hl 1 rfl) ?_
      refine lv_icmp_eq (tgt := 644) hx hb dL_law_639 (by decide) (fun _ => ?_) (fun c => absurd c (by decide +kernel))
      refine lv_iload hx hb dL_law_644 (lv_at hl 1 rfl) ?_
      refine lv_if_ne (tgt := 661) hx hb dL_law_646 (by decide) (fun c => absurd c (by decide +kernel)) (fun _ => ?_)
      refine lv_aload_n hx hb dL_law_649 rfl (lv_at hl 6 rfl) ?_
      refine lv_iconst (v := nI 0) hx hb dL_law_650 (by decide +kernel) ?_
      refine va_lald (i := nI 0) hx hb hK hP 7 5 rfl rfl (vp_in_nI (by omega) (by decide)) dL_law_651 ?_
      refine lv_topl (fun y_651_7 ey_651_7 => ?_)
      obtain rfl : y_651_7 = (nI w0).toInt64 := by rw [ey_651_7]; exact pk_uLs
      refine lv_iload hx hb dL_law_652 (lv_at hl 0 rfl) ?_
      refine lv_i2l hx hb dL_law_654 rfl ?_
      refine W.lcmp hx hb dL_law_655 ?_
      refine lv_topi (fun x_656_8 ex_656_8 => ?_)
      obtain rfl : x_656_8 = nI 0 := by rw [ex_656_8]; exact lg_cmp_self _
      refine lv_if_eq (tgt := 661) hx hb dL_law_656 (by decide) (fun _ => ?_) (fun c => absurd c (by decide +kernel))
      refine lv_goto (tgt := 795) hx hb dL_law_661 (by decide) ?_
      refine W.widen (k := cells + 1) (n := slots + 6) (by omega) (by omega) ?_
      exact kk _ _ _ _ _ _ _ _ _ _ hrel hP hS (lv_sub hl [2, 3, 4, 5, 6] rfl)
    · have hn0 : ∀ j, j < 1024 → bt (ft j) tr = false := fun j hj => by
        cases hq : bt (ft j) tr with
        | false => rfl
        | true => exact absurd ⟨j, hj, hq⟩ hex
      refine va_calli (vx_runSW (As := [.ref (a 0), .int (nI tr), .ref (a 7)]) (rest := []) ⟨hx, hb, hml, hown, hts⟩ (wN_way l dC dI a k fn ft gn gt gm fl o hst H.size sa sb tr htr hn0) (vx_cwSW 3 htw gL_law_L_way rfl rfl rfl (by decide +kernel) ⟨Nat.le_of_ble_eq_true rfl, Nat.le_of_ble_eq_true rfl⟩) (nPzw_far hz hS hP hK) rfl rfl hl.1 rfl (lv_room (Nat.le_of_ble_eq_true rfl)) dL_law_616 ⟨by show _ ≤ 1034; omega, by show _ ≤ 34835; omega⟩) hS (fun q _ h => Nat.le_trans hS.1 h) (fun q h => Nat.le_trans hS.1 h) (fun r5 _ t H1 locs1 ht hvm er5 _ _ hk9 hS => ?_)
      subst er5
      have hP : va_P (dC, dI) vwCl (nW a k fn ft gn gt gm fl o) H1 := va_P.kept hP (fun i9 q9 hq9 => hk9 q9.1 (vx_lt hP hq9) (Nat.not_le.mpr (vx_lt hP hq9)))
      refine lv_istore (lv' := [(5, .int (nI 2)), (4, .int (nI i)), (0, .ref b), (1, .ref (a 0)), (2, .ref (a 3)), (3, .ref (a 7))]) hx hb dL_law_619 hl (by decide) rfl (fun ls hl => ?_)
      refine lv_aload_n hx hb dL_law_621 rfl (lv_at hl 4 rfl) ?_
      refine lv_aload_n hx hb dL_law_622 rfl (lv_at hl 2 rfl) ?_
      refine lv_iload hx hb dL_law_623 (lv_at hl 1 rfl) ?_
      refine lv_iconst (v := nI 1) hx hb dL_law_625 (by decide +kernel) ?_
      refine lv_iadd hx hb dL_law_626 ?_
      refine lv_topi (fun x_627_3 ex_627_3 => ?_)
      obtain rfl : x_627_3 = nI (i + 1) := by rw [ex_627_3]; exact nI_add i 1
      refine va_sld (i := nI (i + 1)) hx hb hX hbl hbA hS (vp_in_nI (by omega) (by omega)) dL_law_627 ?_
      refine lv_topi (fun x_628_4 ex_628_4 => ?_)
      obtain rfl : x_628_4 = nI tr := by rw [ex_628_4]; rw [nI_clamp (show i + 1 < 2 ^ 31 by omega)]; exact etr
      refine va_calli (va_runV (As := [.int (nI tr)]) (rest := []) ⟨hx, hb, hml, hown, hts⟩ (m_wayN l dC dI a k fn ft gn gt gm fl o hinj (fun t w => bt (ft w) t) hrel.2 tr htr hn0) (cwV 1 hts gl_X1_way rfl rfl rfl (by decide +kernel) ⟨Nat.le_of_ble_eq_true rfl, Nat.le_of_ble_eq_true rfl⟩) (nPreV hP hK (va_recv hK hP (ci := 1) (q0 := 3) rfl rfl)) rfl rfl hl.1 rfl (lv_room (Nat.le_of_ble_eq_true rfl)) dL_law_628 ⟨by show _ ≤ 1034; omega, by show _ ≤ 34835; omega⟩) hS (fun q _ h => nA0_ge hge q h) (fun q h => nA0_ge hge q h) (fun r_628_5 _ t H locs ht hvm er_628_5 hB _ _ hS => ?_)
      subst er_628_5
      have hP : va_P (dC, dI) vwCl (nW a k fn ft gn gt gm (nI 2) o) H := by rw [← ht]; exact hB.1
      refine lv_istore (lv' := [(6, .int (nI 0)), (5, .int (nI 2)), (4, .int (nI i)), (0, .ref b), (1, .ref (a 0)), (2, .ref (a 3)), (3, .ref (a 7))]) hx hb dL_law_631 hl (by decide) rfl (fun ls hl => ?_)
      refine lv_aload_n hx hb dL_law_633 rfl (lv_at hl 5 rfl) ?_
      refine vp_callSi (W.runV (As := []) (rest := []) ⟨hx, hb, hml, hown, hts⟩ (m_thrown l dC dI a k fn ft gn gt gm (nI 2) o) (cwV 0 htw gL_law_X1_thrown rfl rfl rfl (by decide +kernel) ⟨Nat.le_of_ble_eq_true rfl, Nat.le_of_ble_eq_true rfl⟩) (nPreV hP hK (va_recv hK hP (ci := 1) (q0 := 3) rfl rfl)) rfl rfl hl.1 rfl (lv_room (Nat.le_of_ble_eq_true rfl)) dL_law_634 ⟨by show _ ≤ 1034; omega, by show _ ≤ 34835; omega⟩) (fun r_634_6 er_634_6 => ?_)
      subst er_634_6
      refine lv_iload hx hb dL_law_637 (lv_at hl 1 rfl) ?_
      refine lv_icmp_eq (tgt := 644) hx hb dL_law_639 (by decide) (fun _ => ?_) (fun c => absurd c (by decide +kernel))
      refine lv_iload hx hb dL_law_644 (lv_at hl 1 rfl) ?_
      refine lv_if_ne (tgt := 661) hx hb dL_law_646 (by decide) (fun _ => ?_) (fun c => absurd c (by decide +kernel))
      refine lv_goto (tgt := 795) hx hb dL_law_661 (by decide) ?_
      exact kk _ _ _ _ _ _ _ _ _ _ hrel hP hS (lv_sub hl [2, 3, 4, 5, 6] rfl)
  · refine va_calli (vx_runSW (As := [.ref (a 0), .int (xs (i + 1)), .ref (a 7)]) (rest := []) ⟨hx, hb, hml, hown, hts⟩ (wB_way l dC dI a k fn ft gn gt gm fl o hst H.size sa sb (xs (i + 1)) hbd) (vx_cwSW 3 htw gL_law_L_way rfl rfl rfl (by decide +kernel) ⟨Nat.le_of_ble_eq_true rfl, Nat.le_of_ble_eq_true rfl⟩) (nPzw_far hz hS hP hK) rfl rfl hl.1 rfl (lv_room (Nat.le_of_ble_eq_true rfl)) dL_law_616 ⟨by show _ ≤ 1034; omega, by show _ ≤ 34835; omega⟩) hS (fun q _ h => Nat.le_trans hS.1 h) (fun q h => Nat.le_trans hS.1 h) (fun r5 _ t H1 locs1 ht hvm er5 _ _ hk9 hS => ?_)
    subst er5
    have hP : va_P (dC, dI) vwCl (nW a k fn ft gn gt gm fl o) H1 := va_P.kept hP (fun i9 q9 hq9 => hk9 q9.1 (vx_lt hP hq9) (Nat.not_le.mpr (vx_lt hP hq9)))
    refine lv_istore (lv' := [(5, .int (nI 1)), (4, .int (nI i)), (0, .ref b), (1, .ref (a 0)), (2, .ref (a 3)), (3, .ref (a 7))]) hx hb dL_law_619 hl (by decide) rfl (fun ls hl => ?_)
    refine lv_aload_n hx hb dL_law_621 rfl (lv_at hl 4 rfl) ?_
    refine lv_aload_n hx hb dL_law_622 rfl (lv_at hl 2 rfl) ?_
    refine lv_iload hx hb dL_law_623 (lv_at hl 1 rfl) ?_
    refine lv_iconst (v := nI 1) hx hb dL_law_625 (by decide +kernel) ?_
    refine lv_iadd hx hb dL_law_626 ?_
    refine lv_topi (fun x_627_3 ex_627_3 => ?_)
    obtain rfl : x_627_3 = nI (i + 1) := by rw [ex_627_3]; exact nI_add i 1
    refine va_sld (i := nI (i + 1)) hx hb hX hbl hbA hS (vp_in_nI (by omega) (by omega)) dL_law_627 ?_
    refine lv_topi (fun x_628_4 ex_628_4 => ?_)
    obtain rfl : x_628_4 = xs (i + 1) := by rw [ex_628_4]; rw [nI_clamp (show i + 1 < 2 ^ 31 by omega)]
    refine va_calli (va_runV (As := [.int (xs (i + 1))]) (rest := []) ⟨hx, hb, hml, hown, hts⟩ (m_wayB l dC dI a k fn ft gn gt gm fl o hinj (xs (i + 1)) hbd) (cwV 1 hts gl_X1_way rfl rfl rfl (by decide +kernel) ⟨Nat.le_of_ble_eq_true rfl, Nat.le_of_ble_eq_true rfl⟩) (nPreV hP hK (va_recv hK hP (ci := 1) (q0 := 3) rfl rfl)) rfl rfl hl.1 rfl (lv_room (Nat.le_of_ble_eq_true rfl)) dL_law_628 ⟨by show _ ≤ 1034; omega, by show _ ≤ 34835; omega⟩) hS (fun q _ h => nA0_ge hge q h) (fun q h => nA0_ge hge q h) (fun r_628_5 _ t H locs ht hvm er_628_5 hB _ _ hS => ?_)
    subst er_628_5
    have hP : va_P (dC, dI) vwCl (nW a k fn ft gn gt gm (nI 1) o) H := by rw [← ht]; exact hB.1
    refine lv_istore (lv' := [(6, .int (nI 0)), (5, .int (nI 1)), (4, .int (nI i)), (0, .ref b), (1, .ref (a 0)), (2, .ref (a 3)), (3, .ref (a 7))]) hx hb dL_law_631 hl (by decide) rfl (fun ls hl => ?_)
    refine lv_aload_n hx hb dL_law_633 rfl (lv_at hl 5 rfl) ?_
    refine vp_callSi (W.runV (As := []) (rest := []) ⟨hx, hb, hml, hown, hts⟩ (m_thrown l dC dI a k fn ft gn gt gm (nI 1) o) (cwV 0 htw gL_law_X1_thrown rfl rfl rfl (by decide +kernel) ⟨Nat.le_of_ble_eq_true rfl, Nat.le_of_ble_eq_true rfl⟩) (nPreV hP hK (va_recv hK hP (ci := 1) (q0 := 3) rfl rfl)) rfl rfl hl.1 rfl (lv_room (Nat.le_of_ble_eq_true rfl)) dL_law_634 ⟨by show _ ≤ 1034; omega, by show _ ≤ 34835; omega⟩) (fun r_634_6 er_634_6 => ?_)
    subst er_634_6
    refine lv_iload hx hb dL_law_637 (lv_at hl 1 rfl) ?_
    refine lv_icmp_eq (tgt := 644) hx hb dL_law_639 (by decide) (fun _ => ?_) (fun c => absurd c (by decide +kernel))
    refine lv_iload hx hb dL_law_644 (lv_at hl 1 rfl) ?_
    refine lv_if_ne (tgt := 661) hx hb dL_law_646 (by decide) (fun _ => ?_) (fun c => absurd c (by decide +kernel))
    refine lv_goto (tgt := 795) hx hb dL_law_661 (by decide) ?_
    exact kk _ _ _ _ _ _ _ _ _ _ hrel hP hS (lv_sub hl [2, 3, 4, 5, 6] rfl)
set_option maxHeartbeats 4000000 in
set_option maxRecDepth 100000 in
theorem law_same {p : Program} {l : Launch} {e : Env} {s : State} {m : MethodId} {below : List Frame} {meth : Method} {c : Code} {b L : Nat} {xs : Nat → Int32} {Q : State → Prop} (hst : l.stackTraces = false) (C0 : lw_At p s m meth c b L xs) {dC : Nat → ClassId} {dI : Nat → Nat → Nat} {a : Nat → Nat} {k : Nat → ClassId} (hinj : nInj a) (hge : ∀ i : Nat, i < 8 → s.heap.size ≤ a i) {sa sb : Nat} (hz : nPz s.heap.size sa sb s) {fn ft gn gt gm : Nat → Int32} {fl : Int32} {o : Nat → Int64} (hrel : nRel fn ft gn gt) {i : Nat} (hi : i + 5 ≤ L) (hL : L ≤ 2560) {H : Heap} {locs : List Loc} (hK : va_K (dC, dI) vwCl (nT k) s) (hP : va_P (dC, dI) vwCl (nW a k fn ft gn gt gm fl o) H) (hS : va_S (fun q => s.heap.size ≤ q) s.heap H locs) {cells slots : Nat} (hc : cells + 1 ≤ 1034) (hs : slots + 6 ≤ 34835) {ls : Array Slot} (hl : lv_has ls 7 (nLoc b a i))
    (kk : ∀ (fn ft gn gt gm : Nat → Int32) (fl : Int32) (o : Nat → Int64) (H : Heap) (locs : List Loc) (ls : Array Slot), nRel fn ft gn gt → va_P (dC, dI) vwCl (nW a k fn ft gn gt gm fl o) H → va_S (fun q => s.heap.size ≤ q) s.heap H locs → lv_has ls 7 (nLoc b a i) → W p l e room_1 s m #[Value.ref b] below meth c H locs (cells + 1) (slots + 6) Q (F0 m 795 ls [])) :
    W p l e room_1 s m #[Value.ref b] below meth c H locs cells slots Q (F0 m 664 ls []) := by
  obtain ⟨hx, hb, hr, hml, hown, hts, hX, hbl, hlocks, hgv⟩ := C0
  have hown : s.vm.findClass RL = some m.cls := hown
  have htw : ∀ w ∈ wsL_law, w.before #[Value.ref b] s = true := fun w hw => hts w (wsL_law_in w hw)
  have hbA : ¬ (fun q : Nat => s.heap.size ≤ q) b := Nat.not_le.mpr hbl
  refine lv_aload_n hx hb dL_law_664 rfl (lv_at hl 2 rfl) ?_
  refine lv_aload_n hx hb dL_law_665 rfl (lv_at hl 1 rfl) ?_
  refine lv_iload hx hb dL_law_666 (lv_at hl 0 rfl) ?_
  refine lv_iconst (v := nI 1) hx hb dL_law_668 (by decide +kernel) ?_
  refine lv_iadd hx hb dL_law_669 ?_
  refine lv_topi (fun x_670_1 ex_670_1 => ?_)
  obtain rfl : x_670_1 = nI (i + 1) := by rw [ex_670_1]; exact nI_add i 1
  refine va_sld (i := nI (i + 1)) hx hb hX hbl hbA hS (vp_in_nI (by omega) (by omega)) dL_law_670 ?_
  refine lv_topi (fun x_671_2 ex_671_2 => ?_)
  obtain rfl : x_671_2 = xs (i + 1) := by rw [ex_671_2]; rw [nI_clamp (show i + 1 < 2 ^ 31 by omega)]
  refine lv_aload_n hx hb dL_law_671 rfl (lv_at hl 1 rfl) ?_
  refine lv_iload hx hb dL_law_672 (lv_at hl 0 rfl) ?_
  refine lv_iconst (v := nI 2) hx hb dL_law_674 (by decide +kernel) ?_
  refine lv_iadd hx hb dL_law_675 ?_
  refine lv_topi (fun x_676_3 ex_676_3 => ?_)
  obtain rfl : x_676_3 = nI (i + 2) := by rw [ex_676_3]; exact nI_add i 2
  refine va_sld (i := nI (i + 2)) hx hb hX hbl hbA hS (vp_in_nI (by omega) (by omega)) dL_law_676 ?_
  refine lv_topi (fun x_677_4 ex_677_4 => ?_)
  obtain rfl : x_677_4 = xs (i + 2) := by rw [ex_677_4]; rw [nI_clamp (show i + 2 < 2 ^ 31 by omega)]
  refine lv_aload_n hx hb dL_law_677 rfl (lv_at hl 4 rfl) ?_
  cases hbd : (nO (xs (i + 1)) 8 || nO (xs (i + 2)) 8)
  · obtain ⟨hb0, hb2⟩ := Bool.or_eq_false_iff.mp hbd
    have hb1 := hb0
    obtain ⟨p0, hp0, ep0⟩ := nO_of hb1 (by decide)
    obtain ⟨q0, hq0, eq0⟩ := nO_of hb2 (by decide)
    rw [ep0, eq0]
    refine va_calli (vx_runSW (As := [.ref (a 0), .int (nI p0), .int (nI q0), .ref (a 7)]) (rest := []) ⟨hx, hb, hml, hown, hts⟩ (w_same l dC dI a k fn ft gn gt gm fl o hinj p0 q0 hp0 hq0) (vx_cwSW 4 htw gL_law_L_same rfl rfl rfl (by decide +kernel) ⟨Nat.le_of_ble_eq_true rfl, Nat.le_of_ble_eq_true rfl⟩) (nPre hP hK) rfl rfl hl.1 rfl (lv_room (Nat.le_of_ble_eq_true rfl)) dL_law_678 ⟨by show _ ≤ 1034; omega, by show _ ≤ 34835; omega⟩) hS (fun q _ h => nA0_ge hge q h) (fun q h => nA0_ge hge q h) (fun r5 _ t H locs ht hvm er5 hB _ _ hS => ?_)
    subst er5
    have hP : va_P (dC, dI) vwCl (nW a k fn ft gn gt gm fl (vp_updL o (nI 0).toNatClampNeg (nl (nAll (nqS fn p0 q0) 1024)))) H := by rw [← ht]; exact hB.1
    refine lv_istore (lv' := [(5, .int (nI 0)), (4, .int (nI i)), (0, .ref b), (1, .ref (a 0)), (2, .ref (a 3)), (3, .ref (a 7))]) hx hb dL_law_681 hl (by decide) rfl (fun ls hl => ?_)
    refine lv_aload_n hx hb dL_law_683 rfl (lv_at hl 4 rfl) ?_
    refine lv_aload_n hx hb dL_law_684 rfl (lv_at hl 2 rfl) ?_
    refine lv_iload hx hb dL_law_685 (lv_at hl 1 rfl) ?_
    refine lv_iconst (v := nI 1) hx hb dL_law_687 (by decide +kernel) ?_
    refine lv_iadd hx hb dL_law_688 ?_
    refine lv_topi (fun x_689_5 ex_689_5 => ?_)
    obtain rfl : x_689_5 = nI (i + 1) := by rw [ex_689_5]; exact nI_add i 1
    refine va_sld (i := nI (i + 1)) hx hb hX hbl hbA hS (vp_in_nI (by omega) (by omega)) dL_law_689 ?_
    refine lv_topi (fun x_690_6 ex_690_6 => ?_)
    obtain rfl : x_690_6 = nI p0 := by rw [ex_690_6]; rw [nI_clamp (show i + 1 < 2 ^ 31 by omega)]; exact ep0
    refine lv_aload_n hx hb dL_law_690 rfl (lv_at hl 2 rfl) ?_
    refine lv_iload hx hb dL_law_691 (lv_at hl 1 rfl) ?_
    refine lv_iconst (v := nI 2) hx hb dL_law_693 (by decide +kernel) ?_
    refine lv_iadd hx hb dL_law_694 ?_
    refine lv_topi (fun x_695_7 ex_695_7 => ?_)
    obtain rfl : x_695_7 = nI (i + 2) := by rw [ex_695_7]; exact nI_add i 2
    refine va_sld (i := nI (i + 2)) hx hb hX hbl hbA hS (vp_in_nI (by omega) (by omega)) dL_law_695 ?_
    refine lv_topi (fun x_696_8 ex_696_8 => ?_)
    obtain rfl : x_696_8 = nI q0 := by rw [ex_696_8]; rw [nI_clamp (show i + 2 < 2 ^ 31 by omega)]; exact eq0
    refine va_calli (va_runV (As := [.int (nI p0), .int (nI q0)]) (rest := []) ⟨hx, hb, hml, hown, hts⟩ (m_same l dC dI a k fn ft gn gt gm fl (vp_updL o (nI 0).toNatClampNeg (nl (nAll (nqS fn p0 q0) 1024))) hinj p0 q0 hp0 hq0) (cwV 2 hts gl_X1_same rfl rfl rfl (by decide +kernel) ⟨Nat.le_of_ble_eq_true rfl, Nat.le_of_ble_eq_true rfl⟩) (nPreV hP hK (va_recv hK hP (ci := 1) (q0 := 3) rfl rfl)) rfl rfl hl.1 rfl (lv_room (Nat.le_of_ble_eq_true rfl)) dL_law_696 ⟨by show _ ≤ 1034; omega, by show _ ≤ 34835; omega⟩) hS (fun q _ h => nA0_ge hge q h) (fun q h => nA0_ge hge q h) (fun r_696_9 _ t H locs ht hvm er_696_9 hB _ _ hS => ?_)
    subst er_696_9
    have hP : va_P (dC, dI) vwCl (nW a k fn ft gn gt gm (nI 0) (vp_updL o (nI 0).toNatClampNeg (nl (nAll (nqS fn p0 q0) 1024)))) H := by rw [← ht]; exact hB.1
    refine lv_istore (lv' := [(6, .int (nb (nAll (nqS gn p0 q0) 1024))), (5, .int (nI 0)), (4, .int (nI i)), (0, .ref b), (1, .ref (a 0)), (2, .ref (a 3)), (3, .ref (a 7))]) hx hb dL_law_699 hl (by decide) rfl (fun ls hl => ?_)
    refine lv_aload_n hx hb dL_law_701 rfl (lv_at hl 5 rfl) ?_
    refine vp_callSi (W.runV (As := []) (rest := []) ⟨hx, hb, hml, hown, hts⟩ (m_thrown l dC dI a k fn ft gn gt gm (nI 0) (vp_updL o (nI 0).toNatClampNeg (nl (nAll (nqS fn p0 q0) 1024)))) (cwV 0 htw gL_law_X1_thrown rfl rfl rfl (by decide +kernel) ⟨Nat.le_of_ble_eq_true rfl, Nat.le_of_ble_eq_true rfl⟩) (nPreV hP hK (va_recv hK hP (ci := 1) (q0 := 3) rfl rfl)) rfl rfl hl.1 rfl (lv_room (Nat.le_of_ble_eq_true rfl)) dL_law_702 ⟨by show _ ≤ 1034; omega, by show _ ≤ 34835; omega⟩) (fun r_702_10 er_702_10 => ?_)
    subst er_702_10
    refine lv_iload hx hb dL_law_705 (lv_at hl 1 rfl) ?_
    refine lv_icmp_eq (tgt := 712) hx hb dL_law_707 (by decide) (fun _ => ?_) (fun c => absurd c (by decide +kernel))
    refine lv_iload hx hb dL_law_712 (lv_at hl 1 rfl) ?_
    refine lv_if_ne (tgt := 736) hx hb dL_law_714 (by decide) (fun c => absurd c (by decide +kernel)) (fun _ => ?_)
    refine lv_aload_n hx hb dL_law_717 rfl (lv_at hl 6 rfl) ?_
    refine lv_iconst (v := nI 0) hx hb dL_law_718 (by decide +kernel) ?_
    refine va_lald (i := nI 0) hx hb hK hP 7 5 rfl rfl (vp_in_nI (by omega) (by decide)) dL_law_719 ?_
    refine lv_topl (fun y_719_11 ey_719_11 => ?_)
    obtain rfl : y_719_11 = nl (nAll (nqS fn p0 q0) 1024) := by rw [ey_719_11]; exact pk_uLs
    refine lv_iload hx hb dL_law_720 (lv_at hl 0 rfl) ?_
    refine lv_if_eq (tgt := 729) hx hb dL_law_722 (by decide) (fun c1 => ?_) (fun c1 => ?_)
    · refine lv_lconst (v := 0) hx hb dL_law_729 (by decide +kernel) ?_
      refine W.lcmp hx hb dL_law_730 ?_
      refine lv_topi (fun x_731_12 ex_731_12 => ?_)
      obtain rfl : x_731_12 = nI 0 := by rw [ex_731_12]; rw [nAll_congr 1024 (nS_eq hrel hp0 hq0), show nAll (nqS gn p0 q0) 1024 = false from nb_f c1]; exact lg_cmp_self _
      refine lv_if_eq (tgt := 736) hx hb dL_law_731 (by decide) (fun _ => ?_) (fun c => absurd c (by decide +kernel))
      refine lv_goto (tgt := 795) hx hb dL_law_736 (by decide) ?_
      refine W.widen (k := cells + 1) (n := slots + 6) (by omega) (by omega) ?_
      exact kk _ _ _ _ _ _ _ _ _ _ hrel hP hS (lv_sub hl [2, 3, 4, 5, 6] rfl)
    · refine lv_lconst (v := 1) hx hb dL_law_725 (by decide +kernel) ?_
      refine lv_goto (tgt := 730) hx hb dL_law_726 (by decide) ?_
      refine W.lcmp hx hb dL_law_730 ?_
      refine lv_topi (fun x_731_12 ex_731_12 => ?_)
      obtain rfl : x_731_12 = nI 0 := by rw [ex_731_12]; rw [nAll_congr 1024 (nS_eq hrel hp0 hq0), show nAll (nqS gn p0 q0) 1024 = true from nb_t c1]; exact lg_cmp_self _
      refine lv_if_eq (tgt := 736) hx hb dL_law_731 (by decide) (fun _ => ?_) (fun c => absurd c (by decide +kernel))
      refine lv_goto (tgt := 795) hx hb dL_law_736 (by decide) ?_
      refine W.widen (k := cells + 1) (n := slots + 6) (by omega) (by omega) ?_
      exact kk _ _ _ _ _ _ _ _ _ _ hrel hP hS (lv_sub hl [2, 3, 4, 5, 6] rfl)
  · refine va_calli (vx_runSW (As := [.ref (a 0), .int (xs (i + 1)), .int (xs (i + 2)), .ref (a 7)]) (rest := []) ⟨hx, hb, hml, hown, hts⟩ (wB_same l dC dI a k fn ft gn gt gm fl o hst H.size sa sb (xs (i + 1)) (xs (i + 2)) hbd) (vx_cwSW 4 htw gL_law_L_same rfl rfl rfl (by decide +kernel) ⟨Nat.le_of_ble_eq_true rfl, Nat.le_of_ble_eq_true rfl⟩) (nPzw_far hz hS hP hK) rfl rfl hl.1 rfl (lv_room (Nat.le_of_ble_eq_true rfl)) dL_law_678 ⟨by show _ ≤ 1034; omega, by show _ ≤ 34835; omega⟩) hS (fun q _ h => Nat.le_trans hS.1 h) (fun q h => Nat.le_trans hS.1 h) (fun r5 _ t H1 locs1 ht hvm er5 _ _ hk9 hS => ?_)
    subst er5
    have hP : va_P (dC, dI) vwCl (nW a k fn ft gn gt gm fl o) H1 := va_P.kept hP (fun i9 q9 hq9 => hk9 q9.1 (vx_lt hP hq9) (Nat.not_le.mpr (vx_lt hP hq9)))
    refine lv_istore (lv' := [(5, .int (nI 1)), (4, .int (nI i)), (0, .ref b), (1, .ref (a 0)), (2, .ref (a 3)), (3, .ref (a 7))]) hx hb dL_law_681 hl (by decide) rfl (fun ls hl => ?_)
    refine lv_aload_n hx hb dL_law_683 rfl (lv_at hl 4 rfl) ?_
    refine lv_aload_n hx hb dL_law_684 rfl (lv_at hl 2 rfl) ?_
    refine lv_iload hx hb dL_law_685 (lv_at hl 1 rfl) ?_
    refine lv_iconst (v := nI 1) hx hb dL_law_687 (by decide +kernel) ?_
    refine lv_iadd hx hb dL_law_688 ?_
    refine lv_topi (fun x_689_5 ex_689_5 => ?_)
    obtain rfl : x_689_5 = nI (i + 1) := by rw [ex_689_5]; exact nI_add i 1
    refine va_sld (i := nI (i + 1)) hx hb hX hbl hbA hS (vp_in_nI (by omega) (by omega)) dL_law_689 ?_
    refine lv_topi (fun x_690_6 ex_690_6 => ?_)
    obtain rfl : x_690_6 = xs (i + 1) := by rw [ex_690_6]; rw [nI_clamp (show i + 1 < 2 ^ 31 by omega)]
    refine lv_aload_n hx hb dL_law_690 rfl (lv_at hl 2 rfl) ?_
    refine lv_iload hx hb dL_law_691 (lv_at hl 1 rfl) ?_
    refine lv_iconst (v := nI 2) hx hb dL_law_693 (by decide +kernel) ?_
    refine lv_iadd hx hb dL_law_694 ?_
    refine lv_topi (fun x_695_7 ex_695_7 => ?_)
    obtain rfl : x_695_7 = nI (i + 2) := by rw [ex_695_7]; exact nI_add i 2
    refine va_sld (i := nI (i + 2)) hx hb hX hbl hbA hS (vp_in_nI (by omega) (by omega)) dL_law_695 ?_
    refine lv_topi (fun x_696_8 ex_696_8 => ?_)
    obtain rfl : x_696_8 = xs (i + 2) := by rw [ex_696_8]; rw [nI_clamp (show i + 2 < 2 ^ 31 by omega)]
    refine va_calli (va_runV (As := [.int (xs (i + 1)), .int (xs (i + 2))]) (rest := []) ⟨hx, hb, hml, hown, hts⟩ (m_sameB l dC dI a k fn ft gn gt gm fl o hinj (xs (i + 1)) (xs (i + 2)) hbd) (cwV 2 hts gl_X1_same rfl rfl rfl (by decide +kernel) ⟨Nat.le_of_ble_eq_true rfl, Nat.le_of_ble_eq_true rfl⟩) (nPreV hP hK (va_recv hK hP (ci := 1) (q0 := 3) rfl rfl)) rfl rfl hl.1 rfl (lv_room (Nat.le_of_ble_eq_true rfl)) dL_law_696 ⟨by show _ ≤ 1034; omega, by show _ ≤ 34835; omega⟩) hS (fun q _ h => nA0_ge hge q h) (fun q h => nA0_ge hge q h) (fun r_696_9 _ t H locs ht hvm er_696_9 hB _ _ hS => ?_)
    subst er_696_9
    have hP : va_P (dC, dI) vwCl (nW a k fn ft gn gt gm (nI 1) o) H := by rw [← ht]; exact hB.1
    refine lv_istore (lv' := [(6, .int (nI 0)), (5, .int (nI 1)), (4, .int (nI i)), (0, .ref b), (1, .ref (a 0)), (2, .ref (a 3)), (3, .ref (a 7))]) hx hb dL_law_699 hl (by decide) rfl (fun ls hl => ?_)
    refine lv_aload_n hx hb dL_law_701 rfl (lv_at hl 5 rfl) ?_
    refine vp_callSi (W.runV (As := []) (rest := []) ⟨hx, hb, hml, hown, hts⟩ (m_thrown l dC dI a k fn ft gn gt gm (nI 1) o) (cwV 0 htw gL_law_X1_thrown rfl rfl rfl (by decide +kernel) ⟨Nat.le_of_ble_eq_true rfl, Nat.le_of_ble_eq_true rfl⟩) (nPreV hP hK (va_recv hK hP (ci := 1) (q0 := 3) rfl rfl)) rfl rfl hl.1 rfl (lv_room (Nat.le_of_ble_eq_true rfl)) dL_law_702 ⟨by show _ ≤ 1034; omega, by show _ ≤ 34835; omega⟩) (fun r_702_10 er_702_10 => ?_)
    subst er_702_10
    refine lv_iload hx hb dL_law_705 (lv_at hl 1 rfl) ?_
    refine lv_icmp_eq (tgt := 712) hx hb dL_law_707 (by decide) (fun _ => ?_) (fun c => absurd c (by decide +kernel))
    refine lv_iload hx hb dL_law_712 (lv_at hl 1 rfl) ?_
    refine lv_if_ne (tgt := 736) hx hb dL_law_714 (by decide) (fun _ => ?_) (fun c => absurd c (by decide +kernel))
    refine lv_goto (tgt := 795) hx hb dL_law_736 (by decide) ?_
    exact kk _ _ _ _ _ _ _ _ _ _ hrel hP hS (lv_sub hl [2, 3, 4, 5, 6] rfl)
set_option maxHeartbeats 4000000 in
set_option maxRecDepth 100000 in
theorem law_tidy {p : Program} {l : Launch} {e : Env} {s : State} {m : MethodId} {below : List Frame} {meth : Method} {c : Code} {b L : Nat} {xs : Nat → Int32} {Q : State → Prop} (hst : l.stackTraces = false) (C0 : lw_At p s m meth c b L xs) {dC : Nat → ClassId} {dI : Nat → Nat → Nat} {a : Nat → Nat} {k : Nat → ClassId} (hinj : nInj a) (hge : ∀ i : Nat, i < 8 → s.heap.size ≤ a i) {sa sb : Nat} (hz : nPz s.heap.size sa sb s) {fn ft gn gt gm : Nat → Int32} {fl : Int32} {o : Nat → Int64} (hrel : nRel fn ft gn gt) {i : Nat} (hi : i + 5 ≤ L) (hL : L ≤ 2560) {H : Heap} {locs : List Loc} (hK : va_K (dC, dI) vwCl (nT k) s) (hP : va_P (dC, dI) vwCl (nW a k fn ft gn gt gm fl o) H) (hS : va_S (fun q => s.heap.size ≤ q) s.heap H locs) {cells slots : Nat} (hc : cells + 1 ≤ 1034) (hs : slots + 6 ≤ 34835) {ls : Array Slot} (hl : lv_has ls 7 (nLoc b a i))
    (kk : ∀ (fn ft gn gt gm : Nat → Int32) (fl : Int32) (o : Nat → Int64) (H : Heap) (locs : List Loc) (ls : Array Slot), nRel fn ft gn gt → va_P (dC, dI) vwCl (nW a k fn ft gn gt gm fl o) H → va_S (fun q => s.heap.size ≤ q) s.heap H locs → lv_has ls 7 (nLoc b a i) → W p l e room_1 s m #[Value.ref b] below meth c H locs (cells + 1) (slots + 6) Q (F0 m 795 ls [])) :
    W p l e room_1 s m #[Value.ref b] below meth c H locs cells slots Q (F0 m 739 ls []) := by
  obtain ⟨hx, hb, hr, hml, hown, hts, hX, hbl, hlocks, hgv⟩ := C0
  have hown : s.vm.findClass RL = some m.cls := hown
  have htw : ∀ w ∈ wsL_law, w.before #[Value.ref b] s = true := fun w hw => hts w (wsL_law_in w hw)
  have hbA : ¬ (fun q : Nat => s.heap.size ≤ q) b := Nat.not_le.mpr hbl
  refine lv_aload_n hx hb dL_law_739 rfl (lv_at hl 2 rfl) ?_
  refine lv_aload_n hx hb dL_law_740 rfl (lv_at hl 1 rfl) ?_
  refine lv_iload hx hb dL_law_741 (lv_at hl 0 rfl) ?_
  refine lv_iconst (v := nI 1) hx hb dL_law_743 (by decide +kernel) ?_
  refine lv_iadd hx hb dL_law_744 ?_
  refine lv_topi (fun x_745_1 ex_745_1 => ?_)
  obtain rfl : x_745_1 = nI (i + 1) := by rw [ex_745_1]; exact nI_add i 1
  refine va_sld (i := nI (i + 1)) hx hb hX hbl hbA hS (vp_in_nI (by omega) (by omega)) dL_law_745 ?_
  refine lv_topi (fun x_746_2 ex_746_2 => ?_)
  obtain rfl : x_746_2 = xs (i + 1) := by rw [ex_746_2]; rw [nI_clamp (show i + 1 < 2 ^ 31 by omega)]
  refine lv_aload_n hx hb dL_law_746 rfl (lv_at hl 4 rfl) ?_
  cases hbd : (nO (xs (i + 1)) 3)
  · have hb1 := hbd
    obtain ⟨wh, hwh, ewh⟩ := nO_of hb1 (by decide)
    rw [ewh]
    refine va_calli (vx_runSW (As := [.ref (a 0), .int (nI wh), .ref (a 7)]) (rest := []) ⟨hx, hb, hml, hown, hts⟩ (w_tidy l dC dI a k fn ft gn gt gm fl o hinj wh hwh) (vx_cwSW 3 htw gL_law_L_tidy rfl rfl rfl (by decide +kernel) ⟨Nat.le_of_ble_eq_true rfl, Nat.le_of_ble_eq_true rfl⟩) (nPre hP hK) rfl rfl hl.1 rfl (lv_room (Nat.le_of_ble_eq_true rfl)) dL_law_747 ⟨by show _ ≤ 1034; omega, by show _ ≤ 34835; omega⟩) hS (fun q _ h => nA0_ge hge q h) (fun q h => nA0_ge hge q h) (fun r5 _ t H locs ht hvm er5 hB _ _ hS => ?_)
    subst er5
    have hP : va_P (dC, dI) vwCl (nW a k fn ft gn gt gm fl (vp_updL o (nI 0).toNatClampNeg ((nI (nN (nqT fn) 8)).toInt64))) H := by rw [← ht]; exact hB.1
    refine lv_istore (lv' := [(5, .int (nI 0)), (4, .int (nI i)), (0, .ref b), (1, .ref (a 0)), (2, .ref (a 3)), (3, .ref (a 7))]) hx hb dL_law_750 hl (by decide) rfl (fun ls hl => ?_)
    refine lv_aload_n hx hb dL_law_752 rfl (lv_at hl 4 rfl) ?_
    refine lv_aload_n hx hb dL_law_753 rfl (lv_at hl 2 rfl) ?_
    refine lv_iload hx hb dL_law_754 (lv_at hl 1 rfl) ?_
    refine lv_iconst (v := nI 1) hx hb dL_law_756 (by decide +kernel) ?_
    refine lv_iadd hx hb dL_law_757 ?_
    refine lv_topi (fun x_758_3 ex_758_3 => ?_)
    obtain rfl : x_758_3 = nI (i + 1) := by rw [ex_758_3]; exact nI_add i 1
    refine va_sld (i := nI (i + 1)) hx hb hX hbl hbA hS (vp_in_nI (by omega) (by omega)) dL_law_758 ?_
    refine lv_topi (fun x_759_4 ex_759_4 => ?_)
    obtain rfl : x_759_4 = nI wh := by rw [ex_759_4]; rw [nI_clamp (show i + 1 < 2 ^ 31 by omega)]; exact ewh
    refine va_calli (va_runV (As := [.int (nI wh)]) (rest := []) ⟨hx, hb, hml, hown, hts⟩ (m_tidy l dC dI a k fn ft gn gt gm fl (vp_updL o (nI 0).toNatClampNeg ((nI (nN (nqT fn) 8)).toInt64)) hinj wh hwh) (cwV 1 hts gl_X1_tidy rfl rfl rfl (by decide +kernel) ⟨Nat.le_of_ble_eq_true rfl, Nat.le_of_ble_eq_true rfl⟩) (nPreV hP hK (va_recv hK hP (ci := 1) (q0 := 3) rfl rfl)) rfl rfl hl.1 rfl (lv_room (Nat.le_of_ble_eq_true rfl)) dL_law_759 ⟨by show _ ≤ 1034; omega, by show _ ≤ 34835; omega⟩) hS (fun q _ h => nA0_ge hge q h) (fun q h => nA0_ge hge q h) (fun r_759_5 _ t H locs ht hvm er_759_5 hB _ _ hS => ?_)
    subst er_759_5
    have hP : va_P (dC, dI) vwCl (nW a k fn ft gn gt gm (nI 0) (vp_updL o (nI 0).toNatClampNeg ((nI (nN (nqT fn) 8)).toInt64))) H := by rw [← ht]; exact hB.1
    refine lv_istore (lv' := [(6, .int (nI (nN (nqT gn) 8))), (5, .int (nI 0)), (4, .int (nI i)), (0, .ref b), (1, .ref (a 0)), (2, .ref (a 3)), (3, .ref (a 7))]) hx hb dL_law_762 hl (by decide) rfl (fun ls hl => ?_)
    refine lv_aload_n hx hb dL_law_764 rfl (lv_at hl 5 rfl) ?_
    refine vp_callSi (W.runV (As := []) (rest := []) ⟨hx, hb, hml, hown, hts⟩ (m_thrown l dC dI a k fn ft gn gt gm (nI 0) (vp_updL o (nI 0).toNatClampNeg ((nI (nN (nqT fn) 8)).toInt64))) (cwV 0 htw gL_law_X1_thrown rfl rfl rfl (by decide +kernel) ⟨Nat.le_of_ble_eq_true rfl, Nat.le_of_ble_eq_true rfl⟩) (nPreV hP hK (va_recv hK hP (ci := 1) (q0 := 3) rfl rfl)) rfl rfl hl.1 rfl (lv_room (Nat.le_of_ble_eq_true rfl)) dL_law_765 ⟨by show _ ≤ 1034; omega, by show _ ≤ 34835; omega⟩) (fun r_765_6 er_765_6 => ?_)
    subst er_765_6
    refine lv_iload hx hb dL_law_768 (lv_at hl 1 rfl) ?_
    refine lv_icmp_eq (tgt := 775) hx hb dL_law_770 (by decide) (fun _ => ?_) (fun c => absurd c (by decide +kernel))
    refine lv_iload hx hb dL_law_775 (lv_at hl 1 rfl) ?_
    refine lv_if_ne (tgt := 792) hx hb dL_law_777 (by decide) (fun c => absurd c (by decide +kernel)) (fun _ => ?_)
    refine lv_aload_n hx hb dL_law_780 rfl (lv_at hl 6 rfl) ?_
    refine lv_iconst (v := nI 0) hx hb dL_law_781 (by decide +kernel) ?_
    refine va_lald (i := nI 0) hx hb hK hP 7 5 rfl rfl (vp_in_nI (by omega) (by decide)) dL_law_782 ?_
    refine lv_topl (fun y_782_7 ey_782_7 => ?_)
    obtain rfl : y_782_7 = (nI (nN (nqT fn) 8)).toInt64 := by rw [ey_782_7]; exact pk_uLs
    refine lv_iload hx hb dL_law_783 (lv_at hl 0 rfl) ?_
    refine lv_i2l hx hb dL_law_785 rfl ?_
    refine W.lcmp hx hb dL_law_786 ?_
    refine lv_topi (fun x_787_8 ex_787_8 => ?_)
    obtain rfl : x_787_8 = nI 0 := by rw [ex_787_8]; rw [nN_congr 8 (nT_eq hrel)]; exact lg_cmp_self _
    refine lv_if_eq (tgt := 792) hx hb dL_law_787 (by decide) (fun _ => ?_) (fun c => absurd c (by decide +kernel))
    refine lv_goto (tgt := 795) hx hb dL_law_792 (by decide) ?_
    refine W.widen (k := cells + 1) (n := slots + 6) (by omega) (by omega) ?_
    exact kk _ _ _ _ _ _ _ _ _ _ hrel hP hS (lv_sub hl [2, 3, 4, 5, 6] rfl)
  · refine va_calli (vx_runSW (As := [.ref (a 0), .int (xs (i + 1)), .ref (a 7)]) (rest := []) ⟨hx, hb, hml, hown, hts⟩ (wB_tidy l dC dI a k fn ft gn gt gm fl o hst H.size sa sb (xs (i + 1)) hbd) (vx_cwSW 3 htw gL_law_L_tidy rfl rfl rfl (by decide +kernel) ⟨Nat.le_of_ble_eq_true rfl, Nat.le_of_ble_eq_true rfl⟩) (nPzw_far hz hS hP hK) rfl rfl hl.1 rfl (lv_room (Nat.le_of_ble_eq_true rfl)) dL_law_747 ⟨by show _ ≤ 1034; omega, by show _ ≤ 34835; omega⟩) hS (fun q _ h => Nat.le_trans hS.1 h) (fun q h => Nat.le_trans hS.1 h) (fun r5 _ t H1 locs1 ht hvm er5 _ _ hk9 hS => ?_)
    subst er5
    have hP : va_P (dC, dI) vwCl (nW a k fn ft gn gt gm fl o) H1 := va_P.kept hP (fun i9 q9 hq9 => hk9 q9.1 (vx_lt hP hq9) (Nat.not_le.mpr (vx_lt hP hq9)))
    refine lv_istore (lv' := [(5, .int (nI 1)), (4, .int (nI i)), (0, .ref b), (1, .ref (a 0)), (2, .ref (a 3)), (3, .ref (a 7))]) hx hb dL_law_750 hl (by decide) rfl (fun ls hl => ?_)
    refine lv_aload_n hx hb dL_law_752 rfl (lv_at hl 4 rfl) ?_
    refine lv_aload_n hx hb dL_law_753 rfl (lv_at hl 2 rfl) ?_
    refine lv_iload hx hb dL_law_754 (lv_at hl 1 rfl) ?_
    refine lv_iconst (v := nI 1) hx hb dL_law_756 (by decide +kernel) ?_
    refine lv_iadd hx hb dL_law_757 ?_
    refine lv_topi (fun x_758_3 ex_758_3 => ?_)
    obtain rfl : x_758_3 = nI (i + 1) := by rw [ex_758_3]; exact nI_add i 1
    refine va_sld (i := nI (i + 1)) hx hb hX hbl hbA hS (vp_in_nI (by omega) (by omega)) dL_law_758 ?_
    refine lv_topi (fun x_759_4 ex_759_4 => ?_)
    obtain rfl : x_759_4 = xs (i + 1) := by rw [ex_759_4]; rw [nI_clamp (show i + 1 < 2 ^ 31 by omega)]
    refine va_calli (va_runV (As := [.int (xs (i + 1))]) (rest := []) ⟨hx, hb, hml, hown, hts⟩ (m_tidyB l dC dI a k fn ft gn gt gm fl o hinj (xs (i + 1)) hbd) (cwV 1 hts gl_X1_tidy rfl rfl rfl (by decide +kernel) ⟨Nat.le_of_ble_eq_true rfl, Nat.le_of_ble_eq_true rfl⟩) (nPreV hP hK (va_recv hK hP (ci := 1) (q0 := 3) rfl rfl)) rfl rfl hl.1 rfl (lv_room (Nat.le_of_ble_eq_true rfl)) dL_law_759 ⟨by show _ ≤ 1034; omega, by show _ ≤ 34835; omega⟩) hS (fun q _ h => nA0_ge hge q h) (fun q h => nA0_ge hge q h) (fun r_759_5 _ t H locs ht hvm er_759_5 hB _ _ hS => ?_)
    subst er_759_5
    have hP : va_P (dC, dI) vwCl (nW a k fn ft gn gt gm (nI 1) o) H := by rw [← ht]; exact hB.1
    refine lv_istore (lv' := [(6, .int (nI 0)), (5, .int (nI 1)), (4, .int (nI i)), (0, .ref b), (1, .ref (a 0)), (2, .ref (a 3)), (3, .ref (a 7))]) hx hb dL_law_762 hl (by decide) rfl (fun ls hl => ?_)
    refine lv_aload_n hx hb dL_law_764 rfl (lv_at hl 5 rfl) ?_
    refine vp_callSi (W.runV (As := []) (rest := []) ⟨hx, hb, hml, hown, hts⟩ (m_thrown l dC dI a k fn ft gn gt gm (nI 1) o) (cwV 0 htw gL_law_X1_thrown rfl rfl rfl (by decide +kernel) ⟨Nat.le_of_ble_eq_true rfl, Nat.le_of_ble_eq_true rfl⟩) (nPreV hP hK (va_recv hK hP (ci := 1) (q0 := 3) rfl rfl)) rfl rfl hl.1 rfl (lv_room (Nat.le_of_ble_eq_true rfl)) dL_law_765 ⟨by show _ ≤ 1034; omega, by show _ ≤ 34835; omega⟩) (fun r_765_6 er_765_6 => ?_)
    subst er_765_6
    refine lv_iload hx hb dL_law_768 (lv_at hl 1 rfl) ?_
    refine lv_icmp_eq (tgt := 775) hx hb dL_law_770 (by decide) (fun _ => ?_) (fun c => absurd c (by decide +kernel))
    refine lv_iload hx hb dL_law_775 (lv_at hl 1 rfl) ?_
    refine lv_if_ne (tgt := 792) hx hb dL_law_777 (by decide) (fun _ => ?_) (fun c => absurd c (by decide +kernel))
    refine lv_goto (tgt := 795) hx hb dL_law_792 (by decide) ?_
    exact kk _ _ _ _ _ _ _ _ _ _ hrel hP hS (lv_sub hl [2, 3, 4, 5, 6] rfl)
