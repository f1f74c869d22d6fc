set_option maxRecDepth 20000 in
theorem gl_X1_unknown : GoodIn lw_tbl (wsV RL 66 RX1 yX1_unknown wsX1_unknown) := goodIn_sub (by decide +kernel) (by decide +kernel)
set_option maxRecDepth 20000 in
theorem gl_X1_reckon : GoodIn lw_tbl (wsV RL 69 RX1 yX1_reckon wsX1_reckon) := goodIn_sub (by decide +kernel) (by decide +kernel)
set_option maxRecDepth 20000 in
theorem gl_X1_compare : GoodIn lw_tbl (wsV RL 73 RX1 yX1_compare wsX1_compare) := goodIn_sub (by decide +kernel) (by decide +kernel)
set_option maxRecDepth 20000 in
theorem gl_X1_choose : GoodIn lw_tbl (wsV RL 76 RX1 yX1_choose wsX1_choose) := goodIn_sub (by decide +kernel) (by decide +kernel)
set_option maxRecDepth 20000 in
theorem gl_X1_join : GoodIn lw_tbl (wsV RL 79 RX1 yX1_join wsX1_join) := goodIn_sub (by decide +kernel) (by decide +kernel)
set_option maxRecDepth 20000 in
theorem gl_X1_value : GoodIn lw_tbl (wsV RL 83 RX1 yX1_value wsX1_value) := goodIn_sub (by decide +kernel) (by decide +kernel)
set_option maxRecDepth 20000 in
theorem gl_X1_way : GoodIn lw_tbl (wsV RL 87 RX1 yX1_way wsX1_way) := goodIn_sub (by decide +kernel) (by decide +kernel)
set_option maxRecDepth 20000 in
theorem gl_X1_same : GoodIn lw_tbl (wsV RL 90 RX1 yX1_same wsX1_same) := goodIn_sub (by decide +kernel) (by decide +kernel)
set_option maxRecDepth 20000 in
theorem gl_X1_tidy : GoodIn lw_tbl (wsV RL 93 RX1 yX1_tidy wsX1_tidy) := goodIn_sub (by decide +kernel) (by decide +kernel)
set_option maxHeartbeats 4000000 in
set_option maxRecDepth 100000 in
theorem law_constant {p : Program} {l : Launch} {e : Env} {s : State} {m : MethodId} {below : List Frame} {meth : Method} {c : Code} {b L : Nat} {xs : Nat → Int32} {Q : State → Prop} (hst : l.stackTraces = false) (C0 : lw_At p s m meth c b L xs) {dC : Nat → ClassId} {dI : Nat → Nat → Nat} {a : Nat → Nat} {k : Nat → ClassId} (hinj : nInj a) (hge : ∀ i : Nat, i < 8 → s.heap.size ≤ a i) {sa sb : Nat} (hz : nPz s.heap.size sa sb s) {fn ft gn gt gm : Nat → Int32} {fl : Int32} {o : Nat → Int64} (hrel : nRel fn ft gn gt) {i : Nat} (hi : i + 5 ≤ L) (hL : L ≤ 2560) {H : Heap} {locs : List Loc} (hK : va_K (dC, dI) vwCl (nT k) s) (hP : va_P (dC, dI) vwCl (nW a k fn ft gn gt gm fl o) H) (hS : va_S (fun q => s.heap.size ≤ q) s.heap H locs) {cells slots : Nat} (hc : cells + 1 ≤ 1034) (hs : slots + 6 ≤ 34835) {ls : Array Slot} (hl : lv_has ls 7 (nLoc b a i))
    (kk : ∀ (fn ft gn gt gm : Nat → Int32) (fl : Int32) (o : Nat → Int64) (H : Heap) (locs : List Loc) (ls : Array Slot), nRel fn ft gn gt → va_P (dC, dI) vwCl (nW a k fn ft gn gt gm fl o) H → va_S (fun q => s.heap.size ≤ q) s.heap H locs → lv_has ls 7 (nLoc b a i) → W p l e room_1 s m #[Value.ref b] below meth c H locs (cells + 1) (slots + 6) Q (F0 m 795 ls [])) :
    W p l e room_1 s m #[Value.ref b] below meth c H locs cells slots Q (F0 m 92 ls []) := by
  obtain ⟨hx, hb, hr, hml, hown, hts, hX, hbl, hlocks, hgv⟩ := C0
  have hown : s.vm.findClass RL = some m.cls := hown
  have htw : ∀ w ∈ wsL_law, w.before #[Value.ref b] s = true := fun w hw => hts w (wsL_law_in w hw)
  have hbA : ¬ (fun q : Nat => s.heap.size ≤ q) b := Nat.not_le.mpr hbl
  refine lv_aload_n hx hb dL_law_92 rfl (lv_at hl 2 rfl) ?_
  refine lv_aload_n hx hb dL_law_93 rfl (lv_at hl 1 rfl) ?_
  refine lv_iload hx hb dL_law_94 (lv_at hl 0 rfl) ?_
  refine lv_iconst (v := nI 1) hx hb dL_law_96 (by decide +kernel) ?_
  refine lv_iadd hx hb dL_law_97 ?_
  refine lv_topi (fun x_98_1 ex_98_1 => ?_)
  obtain rfl : x_98_1 = nI (i + 1) := by rw [ex_98_1]; exact nI_add i 1
  refine va_sld (i := nI (i + 1)) hx hb hX hbl hbA hS (vp_in_nI (by omega) (by omega)) dL_law_98 ?_
  refine lv_topi (fun x_99_2 ex_99_2 => ?_)
  obtain rfl : x_99_2 = xs (i + 1) := by rw [ex_99_2]; rw [nI_clamp (show i + 1 < 2 ^ 31 by omega)]
  refine lv_aload_n hx hb dL_law_99 rfl (lv_at hl 1 rfl) ?_
  refine lv_iload hx hb dL_law_100 (lv_at hl 0 rfl) ?_
  refine lv_iconst (v := nI 2) hx hb dL_law_102 (by decide +kernel) ?_
  refine lv_iadd hx hb dL_law_103 ?_
  refine lv_topi (fun x_104_3 ex_104_3 => ?_)
  obtain rfl : x_104_3 = nI (i + 2) := by rw [ex_104_3]; exact nI_add i 2
  refine va_sld (i := nI (i + 2)) hx hb hX hbl hbA hS (vp_in_nI (by omega) (by omega)) dL_law_104 ?_
  refine lv_topi (fun x_105_4 ex_105_4 => ?_)
  obtain rfl : x_105_4 = xs (i + 2) := by rw [ex_105_4]; rw [nI_clamp (show i + 2 < 2 ^ 31 by omega)]
  cases hbd : (nO (xs (i + 1)) 8)
  · have hb1 := hbd
    obtain ⟨sl, hsl, esl⟩ := nO_of hb1 (by decide)
    rw [esl]
    refine va_calli (vx_runSW (As := [.ref (a 0), .int (nI sl), .int (xs (i + 2))]) (rest := []) ⟨hx, hb, hml, hown, hts⟩ (w_constant l dC dI a k fn ft gn gt gm fl o hinj sl (xs (i + 2)) hsl) (vx_cwSW 3 htw gL_law_L_constant rfl rfl rfl (by decide +kernel) ⟨Nat.le_of_ble_eq_true rfl, Nat.le_of_ble_eq_true rfl⟩) (nPre hP hK) rfl rfl hl.1 rfl (lv_room (Nat.le_of_ble_eq_true rfl)) dL_law_105 ⟨by show _ ≤ 1034; omega, by show _ ≤ 34835; omega⟩) hS (fun q _ h => nA0_ge hge q h) (fun q h => nA0_ge hge q h) (fun r5 _ t H locs ht hvm er5 hB _ _ hS => ?_)
    subst er5
    have hP : va_P (dC, dI) vwCl (nW a k (nF fn (1024 * sl) 1024 (nvK (xs (i + 2)))) ft gn gt gm fl o) H := by rw [← ht]; exact hB.1
    refine lv_istore (lv' := [(5, .int (nI 0)), (4, .int (nI i)), (0, .ref b), (1, .ref (a 0)), (2, .ref (a 3)), (3, .ref (a 7))]) hx hb dL_law_108 hl (by decide) rfl (fun ls hl => ?_)
    refine lv_aload_n hx hb dL_law_110 rfl (lv_at hl 4 rfl) ?_
    refine lv_aload_n hx hb dL_law_111 rfl (lv_at hl 2 rfl) ?_
    refine lv_iload hx hb dL_law_112 (lv_at hl 1 rfl) ?_
    refine lv_iconst (v := nI 1) hx hb dL_law_114 (by decide +kernel) ?_
    refine lv_iadd hx hb dL_law_115 ?_
    refine lv_topi (fun x_116_5 ex_116_5 => ?_)
    obtain rfl : x_116_5 = nI (i + 1) := by rw [ex_116_5]; exact nI_add i 1
    refine va_sld (i := nI (i + 1)) hx hb hX hbl hbA hS (vp_in_nI (by omega) (by omega)) dL_law_116 ?_
    refine lv_topi (fun x_117_6 ex_117_6 => ?_)
    obtain rfl : x_117_6 = nI sl := by rw [ex_117_6]; rw [nI_clamp (show i + 1 < 2 ^ 31 by omega)]; exact esl
    refine lv_aload_n hx hb dL_law_117 rfl (lv_at hl 2 rfl) ?_
    refine lv_iload hx hb dL_law_118 (lv_at hl 1 rfl) ?_
    refine lv_iconst (v := nI 2) hx hb dL_law_120 (by decide +kernel) ?_
    refine lv_iadd hx hb dL_law_121 ?_
    refine lv_topi (fun x_122_7 ex_122_7 => ?_)
    obtain rfl : x_122_7 = nI (i + 2) := by rw [ex_122_7]; exact nI_add i 2
    refine va_sld (i := nI (i + 2)) hx hb hX hbl hbA hS (vp_in_nI (by omega) (by omega)) dL_law_122 ?_
    refine lv_topi (fun x_123_8 ex_123_8 => ?_)
    obtain rfl : x_123_8 = xs (i + 2) := by rw [ex_123_8]; rw [nI_clamp (show i + 2 < 2 ^ 31 by omega)]
    refine va_callv (va_runV (As := [.int (nI sl), .int (xs (i + 2))]) (rest := []) ⟨hx, hb, hml, hown, hts⟩ (m_constant l dC dI a k (nF fn (1024 * sl) 1024 (nvK (xs (i + 2)))) ft gn gt gm fl o hinj sl (xs (i + 2)) hsl) (cwV 2 htw gL_law_X1_constant rfl rfl rfl (by decide +kernel) ⟨Nat.le_of_ble_eq_true rfl, Nat.le_of_ble_eq_true rfl⟩) (nPreV hP hK (va_recv hK hP (ci := 1) (q0 := 3) rfl rfl)) rfl rfl hl.1 rfl (lv_room (Nat.le_of_ble_eq_true rfl)) dL_law_123 ⟨by show _ ≤ 1034; omega, by show _ ≤ 34835; omega⟩) hS (fun q _ h => nA0_ge hge q h) (fun q h => nA0_ge hge q h) (fun _ t H locs ht hvm _ hB _ _ hS => ?_)
    have hP : va_P (dC, dI) vwCl (nW a k (nF fn (1024 * sl) 1024 (nvK (xs (i + 2)))) ft (nF gn (1024 * sl) 1024 (mvK (xs (i + 2)))) gt gm (nI 0) o) H := by rw [← ht]; exact hB.1
    refine lv_aload_n hx hb dL_law_126 rfl (lv_at hl 4 rfl) ?_
    refine vp_callSi (W.runV (As := []) (rest := []) ⟨hx, hb, hml, hown, hts⟩ (m_thrown l dC dI a k (nF fn (1024 * sl) 1024 (nvK (xs (i + 2)))) ft (nF gn (1024 * sl) 1024 (mvK (xs (i + 2)))) gt gm (nI 0) o) (cwV 0 htw gL_law_X1_thrown rfl rfl rfl (by decide +kernel) ⟨Nat.le_of_ble_eq_true rfl, Nat.le_of_ble_eq_true rfl⟩) (nPreV hP hK (va_recv hK hP (ci := 1) (q0 := 3) rfl rfl)) rfl rfl hl.1 rfl (lv_room (Nat.le_of_ble_eq_true rfl)) dL_law_127 ⟨by show _ ≤ 1034; omega, by show _ ≤ 34835; omega⟩) (fun r_127_9 er_127_9 => ?_)
    subst er_127_9
    refine lv_iload hx hb dL_law_130 (lv_at hl 0 rfl) ?_
    refine lv_icmp_eq (tgt := 137) hx hb dL_law_132 (by decide) (fun _ => ?_) (fun c => absurd c (by decide +kernel))
    refine lv_goto (tgt := 795) hx hb dL_law_137 (by decide) ?_
    refine W.widen (k := cells + 1) (n := slots + 6) (by omega) (by omega) ?_
    exact kk _ _ _ _ _ _ _ _ _ _ (nRel_fill hrel hsl (fun _ _ => nK_eq)) hP hS (lv_sub hl [1, 2, 3, 4, 5] rfl)
  · refine va_calli (vx_runSW (As := [.ref (a 0), .int (xs (i + 1)), .int (xs (i + 2))]) (rest := []) ⟨hx, hb, hml, hown, hts⟩ (wB_constant l dC dI a k fn ft gn gt gm fl o hst H.size sa sb (xs (i + 1)) (xs (i + 2)) hbd) (vx_cwSW 3 htw gL_law_L_constant rfl rfl rfl (by decide +kernel) ⟨Nat.le_of_ble_eq_true rfl, Nat.le_of_ble_eq_true rfl⟩) (nPzw_far hz hS hP hK) rfl rfl hl.1 rfl (lv_room (Nat.le_of_ble_eq_true rfl)) dL_law_105 ⟨by show _ ≤ 1034; omega, by show _ ≤ 34835; omega⟩) hS (fun q _ h => Nat.le_trans hS.1 h) (fun q h => Nat.le_trans hS.1 h) (fun r5 _ t H1 locs1 ht hvm er5 _ _ hk9 hS => ?_)
    subst er5
    have hP : va_P (dC, dI) vwCl (nW a k fn ft gn gt gm fl o) H1 := va_P.kept hP (fun i9 q9 hq9 => hk9 q9.1 (vx_lt hP hq9) (Nat.not_le.mpr (vx_lt hP hq9)))
    refine lv_istore (lv' := [(5, .int (nI 1)), (4, .int (nI i)), (0, .ref b), (1, .ref (a 0)), (2, .ref (a 3)), (3, .ref (a 7))]) hx hb dL_law_108 hl (by decide) rfl (fun ls hl => ?_)
    refine lv_aload_n hx hb dL_law_110 rfl (lv_at hl 4 rfl) ?_
    refine lv_aload_n hx hb dL_law_111 rfl (lv_at hl 2 rfl) ?_
    refine lv_iload hx hb dL_law_112 (lv_at hl 1 rfl) ?_
    refine lv_iconst (v := nI 1) hx hb dL_law_114 (by decide +kernel) ?_
    refine lv_iadd hx hb dL_law_115 ?_
    refine lv_topi (fun x_116_5 ex_116_5 => ?_)
    obtain rfl : x_116_5 = nI (i + 1) := by rw [ex_116_5]; exact nI_add i 1
    refine va_sld (i := nI (i + 1)) hx hb hX hbl hbA hS (vp_in_nI (by omega) (by omega)) dL_law_116 ?_
    refine lv_topi (fun x_117_6 ex_117_6 => ?_)
    obtain rfl : x_117_6 = xs (i + 1) := by rw [ex_117_6]; rw [nI_clamp (show i + 1 < 2 ^ 31 by omega)]
    refine lv_aload_n hx hb dL_law_117 rfl (lv_at hl 2 rfl) ?_
    refine lv_iload hx hb dL_law_118 (lv_at hl 1 rfl) ?_
    refine lv_iconst (v := nI 2) hx hb dL_law_120 (by decide +kernel) ?_
    refine lv_iadd hx hb dL_law_121 ?_
    refine lv_topi (fun x_122_7 ex_122_7 => ?_)
    obtain rfl : x_122_7 = nI (i + 2) := by rw [ex_122_7]; exact nI_add i 2
    refine va_sld (i := nI (i + 2)) hx hb hX hbl hbA hS (vp_in_nI (by omega) (by omega)) dL_law_122 ?_
    refine lv_topi (fun x_123_8 ex_123_8 => ?_)
    obtain rfl : x_123_8 = xs (i + 2) := by rw [ex_123_8]; rw [nI_clamp (show i + 2 < 2 ^ 31 by omega)]
    refine va_callv (va_runV (As := [.int (xs (i + 1)), .int (xs (i + 2))]) (rest := []) ⟨hx, hb, hml, hown, hts⟩ (m_constantB l dC dI a k fn ft gn gt gm fl o hinj (xs (i + 1)) (xs (i + 2)) hbd) (cwV 2 htw gL_law_X1_constant rfl rfl rfl (by decide +kernel) ⟨Nat.le_of_ble_eq_true rfl, Nat.le_of_ble_eq_true rfl⟩) (nPreV hP hK (va_recv hK hP (ci := 1) (q0 := 3) rfl rfl)) rfl rfl hl.1 rfl (lv_room (Nat.le_of_ble_eq_true rfl)) dL_law_123 ⟨by show _ ≤ 1034; omega, by show _ ≤ 34835; omega⟩) hS (fun q _ h => nA0_ge hge q h) (fun q h => nA0_ge hge q h) (fun _ t H locs ht hvm _ hB _ _ hS => ?_)
    have hP : va_P (dC, dI) vwCl (nW a k fn ft gn gt gm (nI 1) o) H := by rw [← ht]; exact hB.1
    refine lv_aload_n hx hb dL_law_126 rfl (lv_at hl 4 rfl) ?_
    refine vp_callSi (W.runV (As := []) (rest := []) ⟨hx, hb, hml, hown, hts⟩ (m_thrown l dC dI a k fn ft gn gt gm (nI 1) o) (cwV 0 htw gL_law_X1_thrown rfl rfl rfl (by decide +kernel) ⟨Nat.le_of_ble_eq_true rfl, Nat.le_of_ble_eq_true rfl⟩) (nPreV hP hK (va_recv hK hP (ci := 1) (q0 := 3) rfl rfl)) rfl rfl hl.1 rfl (lv_room (Nat.le_of_ble_eq_true rfl)) dL_law_127 ⟨by show _ ≤ 1034; omega, by show _ ≤ 34835; omega⟩) (fun r_127_9 er_127_9 => ?_)
    subst er_127_9
    refine lv_iload hx hb dL_law_130 (lv_at hl 0 rfl) ?_
    refine lv_icmp_eq (tgt := 137) hx hb dL_law_132 (by decide) (fun _ => ?_) (fun c => absurd c (by decide +kernel))
    refine lv_goto (tgt := 795) hx hb dL_law_137 (by decide) ?_
    exact kk _ _ _ _ _ _ _ _ _ _ hrel hP hS (lv_sub hl [1, 2, 3, 4, 5] rfl)
set_option maxHeartbeats 4000000 in
set_option maxRecDepth 100000 in
theorem law_unknown {p : Program} {l : Launch} {e : Env} {s : State} {m : MethodId} {below : List Frame} {meth : Method} {c : Code} {b L : Nat} {xs : Nat → Int32} {Q : State → Prop} (hst : l.stackTraces = false) (C0 : lw_At p s m meth c b L xs) {dC : Nat → ClassId} {dI : Nat → Nat → Nat} {a : Nat → Nat} {k : Nat → ClassId} (hinj : nInj a) (hge : ∀ i : Nat, i < 8 → s.heap.size ≤ a i) {sa sb : Nat} (hz : nPz s.heap.size sa sb s) {fn ft gn gt gm : Nat → Int32} {fl : Int32} {o : Nat → Int64} (hrel : nRel fn ft gn gt) {i : Nat} (hi : i + 5 ≤ L) (hL : L ≤ 2560) {H : Heap} {locs : List Loc} (hK : va_K (dC, dI) vwCl (nT k) s) (hP : va_P (dC, dI) vwCl (nW a k fn ft gn gt gm fl o) H) (hS : va_S (fun q => s.heap.size ≤ q) s.heap H locs) {cells slots : Nat} (hc : cells + 1 ≤ 1034) (hs : slots + 6 ≤ 34835) {ls : Array Slot} (hl : lv_has ls 7 (nLoc b a i))
    (kk : ∀ (fn ft gn gt gm : Nat → Int32) (fl : Int32) (o : Nat → Int64) (H : Heap) (locs : List Loc) (ls : Array Slot), nRel fn ft gn gt → va_P (dC, dI) vwCl (nW a k fn ft gn gt gm fl o) H → va_S (fun q => s.heap.size ≤ q) s.heap H locs → lv_has ls 7 (nLoc b a i) → W p l e room_1 s m #[Value.ref b] below meth c H locs (cells + 1) (slots + 6) Q (F0 m 795 ls [])) :
    W p l e room_1 s m #[Value.ref b] below meth c H locs cells slots Q (F0 m 140 ls []) := by
  obtain ⟨hx, hb, hr, hml, hown, hts, hX, hbl, hlocks, hgv⟩ := C0
  have hown : s.vm.findClass RL = some m.cls := hown
  have htw : ∀ w ∈ wsL_law, w.before #[Value.ref b] s = true := fun w hw => hts w (wsL_law_in w hw)
  have hbA : ¬ (fun q : Nat => s.heap.size ≤ q) b := Nat.not_le.mpr hbl
  refine lv_aload_n hx hb dL_law_140 rfl (lv_at hl 2 rfl) ?_
  refine lv_aload_n hx hb dL_law_141 rfl (lv_at hl 1 rfl) ?_
  refine lv_iload hx hb dL_law_142 (lv_at hl 0 rfl) ?_
  refine lv_iconst (v := nI 1) hx hb dL_law_144 (by decide +kernel) ?_
  refine lv_iadd hx hb dL_law_145 ?_
  refine lv_topi (fun x_146_1 ex_146_1 => ?_)
  obtain rfl : x_146_1 = nI (i + 1) := by rw [ex_146_1]; exact nI_add i 1
  refine va_sld (i := nI (i + 1)) hx hb hX hbl hbA hS (vp_in_nI (by omega) (by omega)) dL_law_146 ?_
  refine lv_topi (fun x_147_2 ex_147_2 => ?_)
  obtain rfl : x_147_2 = xs (i + 1) := by rw [ex_147_2]; rw [nI_clamp (show i + 1 < 2 ^ 31 by omega)]
  refine lv_aload_n hx hb dL_law_147 rfl (lv_at hl 1 rfl) ?_
  refine lv_iload hx hb dL_law_148 (lv_at hl 0 rfl) ?_
  refine lv_iconst (v := nI 2) hx hb dL_law_150 (by decide +kernel) ?_
  refine lv_iadd hx hb dL_law_151 ?_
  refine lv_topi (fun x_152_3 ex_152_3 => ?_)
  obtain rfl : x_152_3 = nI (i + 2) := by rw [ex_152_3]; exact nI_add i 2
  refine va_sld (i := nI (i + 2)) hx hb hX hbl hbA hS (vp_in_nI (by omega) (by omega)) dL_law_152 ?_
  refine lv_topi (fun x_153_4 ex_153_4 => ?_)
  obtain rfl : x_153_4 = xs (i + 2) := by rw [ex_153_4]; rw [nI_clamp (show i + 2 < 2 ^ 31 by omega)]
  refine lv_aload_n hx hb dL_law_153 rfl (lv_at hl 1 rfl) ?_
  refine lv_iload hx hb dL_law_154 (lv_at hl 0 rfl) ?_
  refine lv_iconst (v := nI 3) hx hb dL_law_156 (by decide +kernel) ?_
  refine lv_iadd hx hb dL_law_157 ?_
  refine lv_topi (fun x_158_5 ex_158_5 => ?_)
  obtain rfl : x_158_5 = nI (i + 3) := by rw [ex_158_5]; exact nI_add i 3
  refine va_sld (i := nI (i + 3)) hx hb hX hbl hbA hS (vp_in_nI (by omega) (by omega)) dL_law_158 ?_
  refine lv_topi (fun x_159_6 ex_159_6 => ?_)
  obtain rfl : x_159_6 = xs (i + 3) := by rw [ex_159_6]; rw [nI_clamp (show i + 3 < 2 ^ 31 by omega)]
  refine lv_aload_n hx hb dL_law_159 rfl (lv_at hl 1 rfl) ?_
  refine lv_iload hx hb dL_law_160 (lv_at hl 0 rfl) ?_
  refine lv_iconst (v := nI 4) hx hb dL_law_162 (by decide +kernel) ?_
  refine lv_iadd hx hb dL_law_163 ?_
  refine lv_topi (fun x_164_7 ex_164_7 => ?_)
  obtain rfl : x_164_7 = nI (i + 4) := by rw [ex_164_7]; exact nI_add i 4
  refine va_sld (i := nI (i + 4)) hx hb hX hbl hbA hS (vp_in_nI (by omega) (by omega)) dL_law_164 ?_
  refine lv_topi (fun x_165_8 ex_165_8 => ?_)
  obtain rfl : x_165_8 = xs (i + 4) := by rw [ex_165_8]; rw [nI_clamp (show i + 4 < 2 ^ 31 by omega)]
  cases hbd : (nO (xs (i + 1)) 8 || nO (xs (i + 2)) 11 || nO (xs (i + 3)) 11 || !decide ((xs (i + 2)) + (xs (i + 3)) ≤ nI 10))
  · obtain ⟨hb0, hb4⟩ := Bool.or_eq_false_iff.mp hbd
    obtain ⟨hb0, hb3⟩ := Bool.or_eq_false_iff.mp hb0
    obtain ⟨hb0, hb2⟩ := Bool.or_eq_false_iff.mp hb0
    have hb1 := hb0
    obtain ⟨sl, hsl, esl⟩ := nO_of hb1 (by decide)
    obtain ⟨fi, hfi, efi⟩ := nO_of hb2 (by decide)
    obtain ⟨ct, hct, ect⟩ := nO_of hb3 (by decide)
    rw [esl, efi, ect]
    have hct2 : fi + ct ≤ 10 := by
      rw [efi, ect, nI_add] at hb4
      have h9 : nI (fi + ct) ≤ nI 10 := of_decide_eq_true (nnot hb4)
      exact (nI_leI (by omega) (by decide)).mp h9
    refine va_calli (vx_runSW (As := [.ref (a 0), .int (nI sl), .int (nI fi), .int (nI ct), .int (xs (i + 4))]) (rest := []) ⟨hx, hb, hml, hown, hts⟩ (w_unknown l dC dI a k fn ft gn gt gm fl o hinj sl fi ct (xs (i + 4)) hsl (by omega) hct2) (vx_cwSW 5 htw gL_law_L_unknown rfl rfl rfl (by decide +kernel) ⟨Nat.le_of_ble_eq_true rfl, Nat.le_of_ble_eq_true rfl⟩) (nPre hP hK) rfl rfl hl.1 rfl (lv_room (Nat.le_of_ble_eq_true rfl)) dL_law_165 ⟨by show _ ≤ 1034; omega, by show _ ≤ 34835; omega⟩) hS (fun q _ h => nA0_ge hge q h) (fun q h => nA0_ge hge q h) (fun r5 _ t H locs ht hvm er5 hB _ _ hS => ?_)
    subst er5
    have hP : va_P (dC, dI) vwCl (nW a k (nF fn (1024 * sl) 1024 (nvU fi ct (xs (i + 4)))) ft gn gt gm fl o) H := by rw [← ht]; exact hB.1
    refine lv_istore (lv' := [(5, .int (nI 0)), (4, .int (nI i)), (0, .ref b), (1, .ref (a 0)), (2, .ref (a 3)), (3, .ref (a 7))]) hx hb dL_law_168 hl (by decide) rfl (fun ls hl => ?_)
    refine lv_aload_n hx hb dL_law_170 rfl (lv_at hl 4 rfl) ?_
    refine lv_aload_n hx hb dL_law_171 rfl (lv_at hl 2 rfl) ?_
    refine lv_iload hx hb dL_law_172 (lv_at hl 1 rfl) ?_
    refine lv_iconst (v := nI 1) hx hb dL_law_174 (by decide +kernel) ?_
    refine lv_iadd hx hb dL_law_175 ?_
    refine lv_topi (fun x_176_9 ex_176_9 => ?_)
    obtain rfl : x_176_9 = nI (i + 1) := by rw [ex_176_9]; exact nI_add i 1
    refine va_sld (i := nI (i + 1)) hx hb hX hbl hbA hS (vp_in_nI (by omega) (by omega)) dL_law_176 ?_
    refine lv_topi (fun x_177_10 ex_177_10 => ?_)
    obtain rfl : x_177_10 = nI sl := by rw [ex_177_10]; rw [nI_clamp (show i + 1 < 2 ^ 31 by omega)]; exact esl
    refine lv_aload_n hx hb dL_law_177 rfl (lv_at hl 2 rfl) ?_
    refine lv_iload hx hb dL_law_178 (lv_at hl 1 rfl) ?_
    refine lv_iconst (v := nI 2) hx hb dL_law_180 (by decide +kernel) ?_
    refine lv_iadd hx hb dL_law_181 ?_
    refine lv_topi (fun x_182_11 ex_182_11 => ?_)
    obtain rfl : x_182_11 = nI (i + 2) := by rw [ex_182_11]; exact nI_add i 2
    refine va_sld (i := nI (i + 2)) hx hb hX hbl hbA hS (vp_in_nI (by omega) (by omega)) dL_law_182 ?_
    refine lv_topi (fun x_183_12 ex_183_12 => ?_)
    obtain rfl : x_183_12 = nI fi := by rw [ex_183_12]; rw [nI_clamp (show i + 2 < 2 ^ 31 by omega)]; exact efi
    refine lv_aload_n hx hb dL_law_183 rfl (lv_at hl 2 rfl) ?_
    refine lv_iload hx hb dL_law_184 (lv_at hl 1 rfl) ?_
    refine lv_iconst (v := nI 3) hx hb dL_law_186 (by decide +kernel) ?_
    refine lv_iadd hx hb dL_law_187 ?_
    refine lv_topi (fun x_188_13 ex_188_13 => ?_)
    obtain rfl : x_188_13 = nI (i + 3) := by rw [ex_188_13]; exact nI_add i 3
    refine va_sld (i := nI (i + 3)) hx hb hX hbl hbA hS (vp_in_nI (by omega) (by omega)) dL_law_188 ?_
    refine lv_topi (fun x_189_14 ex_189_14 => ?_)
    obtain rfl : x_189_14 = nI ct := by rw [ex_189_14]; rw [nI_clamp (show i + 3 < 2 ^ 31 by omega)]; exact ect
    refine lv_aload_n hx hb dL_law_189 rfl (lv_at hl 2 rfl) ?_
    refine lv_iload hx hb dL_law_190 (lv_at hl 1 rfl) ?_
    refine lv_iconst (v := nI 4) hx hb dL_law_192 (by decide +kernel) ?_
    refine lv_iadd hx hb dL_law_193 ?_
    refine lv_topi (fun x_194_15 ex_194_15 => ?_)
    obtain rfl : x_194_15 = nI (i + 4) := by rw [ex_194_15]; exact nI_add i 4
    refine va_sld (i := nI (i + 4)) hx hb hX hbl hbA hS (vp_in_nI (by omega) (by omega)) dL_law_194 ?_
    refine lv_topi (fun x_195_16 ex_195_16 => ?_)
    obtain rfl : x_195_16 = xs (i + 4) := by rw [ex_195_16]; rw [nI_clamp (show i + 4 < 2 ^ 31 by omega)]
    refine va_callv (va_runV (As := [.int (nI sl), .int (nI fi), .int (nI ct), .int (xs (i + 4))]) (rest := []) ⟨hx, hb, hml, hown, hts⟩ (m_unknown l dC dI a k (nF fn (1024 * sl) 1024 (nvU fi ct (xs (i + 4)))) ft gn gt gm fl o hinj sl fi ct (xs (i + 4)) hsl (by omega) hct2) (cwV 4 hts gl_X1_unknown rfl rfl rfl (by decide +kernel) ⟨Nat.le_of_ble_eq_true rfl, Nat.le_of_ble_eq_true rfl⟩) (nPreV hP hK (va_recv hK hP (ci := 1) (q0 := 3) rfl rfl)) rfl rfl hl.1 rfl (lv_room (Nat.le_of_ble_eq_true rfl)) dL_law_195 ⟨by show _ ≤ 1034; omega, by show _ ≤ 34835; omega⟩) hS (fun q _ h => nA0_ge hge q h) (fun q h => nA0_ge hge q h) (fun _ t H locs ht hvm _ hB _ _ hS => ?_)
    have hP : va_P (dC, dI) vwCl (nW a k (nF fn (1024 * sl) 1024 (nvU fi ct (xs (i + 4)))) ft (nF gn (1024 * sl) 1024 (mvU fi ct (xs (i + 4)))) gt gm (nI 0) o) H := by rw [← ht]; exact hB.1
    refine lv_aload_n hx hb dL_law_198 rfl (lv_at hl 4 rfl) ?_
    refine vp_callSi (W.runV (As := []) (rest := []) ⟨hx, hb, hml, hown, hts⟩ (m_thrown l dC dI a k (nF fn (1024 * sl) 1024 (nvU fi ct (xs (i + 4)))) ft (nF gn (1024 * sl) 1024 (mvU fi ct (xs (i + 4)))) gt gm (nI 0) o) (cwV 0 htw gL_law_X1_thrown rfl rfl rfl (by decide +kernel) ⟨Nat.le_of_ble_eq_true rfl, Nat.le_of_ble_eq_true rfl⟩) (nPreV hP hK (va_recv hK hP (ci := 1) (q0 := 3) rfl rfl)) rfl rfl hl.1 rfl (lv_room (Nat.le_of_ble_eq_true rfl)) dL_law_199 ⟨by show _ ≤ 1034; omega, by show _ ≤ 34835; omega⟩) (fun r_199_17 er_199_17 => ?_)
    subst er_199_17
    refine lv_iload hx hb dL_law_202 (lv_at hl 0 rfl) ?_
    refine lv_icmp_eq (tgt := 209) hx hb dL_law_204 (by decide) (fun _ => ?_) (fun c => absurd c (by decide +kernel))
    refine lv_goto (tgt := 795) hx hb dL_law_209 (by decide) ?_
    refine W.widen (k := cells + 1) (n := slots + 6) (by omega) (by omega) ?_
    exact kk _ _ _ _ _ _ _ _ _ _ (nRel_fill hrel hsl (fun _ _ => nU_eq)) hP hS (lv_sub hl [1, 2, 3, 4, 5] rfl)
  · refine va_calli (vx_runSW (As := [.ref (a 0), .int (xs (i + 1)), .int (xs (i + 2)), .int (xs (i + 3)), .int (xs (i + 4))]) (rest := []) ⟨hx, hb, hml, hown, hts⟩ (wB_unknown l dC dI a k fn ft gn gt gm fl o hst H.size sa sb (xs (i + 1)) (xs (i + 2)) (xs (i + 3)) (xs (i + 4)) hbd) (vx_cwSW 5 htw gL_law_L_unknown rfl rfl rfl (by decide +kernel) ⟨Nat.le_of_ble_eq_true rfl, Nat.le_of_ble_eq_true rfl⟩) (nPzw_far hz hS hP hK) rfl rfl hl.1 rfl (lv_room (Nat.le_of_ble_eq_true rfl)) dL_law_165 ⟨by show _ ≤ 1034; omega, by show _ ≤ 34835; omega⟩) hS (fun q _ h => Nat.le_trans hS.1 h) (fun q h => Nat.le_trans hS.1 h) (fun r5 _ t H1 locs1 ht hvm er5 _ _ hk9 hS => ?_)
    subst er5
    have hP : va_P (dC, dI) vwCl (nW a k fn ft gn gt gm fl o) H1 := va_P.kept hP (fun i9 q9 hq9 => hk9 q9.1 (vx_lt hP hq9) (Nat.not_le.mpr (vx_lt hP hq9)))
    refine lv_istore (lv' := [(5, .int (nI 1)), (4, .int (nI i)), (0, .ref b), (1, .ref (a 0)), (2, .ref (a 3)), (3, .ref (a 7))]) hx hb dL_law_168 hl (by decide) rfl (fun ls hl => ?_)
    refine lv_aload_n hx hb dL_law_170 rfl (lv_at hl 4 rfl) ?_
    refine lv_aload_n hx hb dL_law_171 rfl (lv_at hl 2 rfl) ?_
    refine lv_iload hx hb dL_law_172 (lv_at hl 1 rfl) ?_
    refine lv_iconst (v := nI 1) hx hb dL_law_174 (by decide +kernel) ?_
    refine lv_iadd hx hb dL_law_175 ?_
    refine lv_topi (fun x_176_9 ex_176_9 => ?_)
    obtain rfl : x_176_9 = nI (i + 1) := by rw [ex_176_9]; exact nI_add i 1
    refine va_sld (i := nI (i + 1)) hx hb hX hbl hbA hS (vp_in_nI (by omega) (by omega)) dL_law_176 ?_
    refine lv_topi (fun x_177_10 ex_177_10 => ?_)
    obtain rfl : x_177_10 = xs (i + 1) := by rw [ex_177_10]; rw [nI_clamp (show i + 1 < 2 ^ 31 by omega)]
    refine lv_aload_n hx hb dL_law_177 rfl (lv_at hl 2 rfl) ?_
    refine lv_iload hx hb dL_law_178 (lv_at hl 1 rfl) ?_
    refine lv_iconst (v := nI 2) hx hb dL_law_180 (by decide +kernel) ?_
    refine lv_iadd hx hb dL_law_181 ?_
    refine lv_topi (fun x_182_11 ex_182_11 => ?_)
    obtain rfl : x_182_11 = nI (i + 2) := by rw [ex_182_11]; exact nI_add i 2
    refine va_sld (i := nI (i + 2)) hx hb hX hbl hbA hS (vp_in_nI (by omega) (by omega)) dL_law_182 ?_
    refine lv_topi (fun x_183_12 ex_183_12 => ?_)
    obtain rfl : x_183_12 = xs (i + 2) := by rw [ex_183_12]; rw [nI_clamp (show i + 2 < 2 ^ 31 by omega)]
    refine lv_aload_n hx hb dL_law_183 rfl (lv_at hl 2 rfl) ?_
    refine lv_iload hx hb dL_law_184 (lv_at hl 1 rfl) ?_
    refine lv_iconst (v := nI 3) hx hb dL_law_186 (by decide +kernel) ?_
    refine lv_iadd hx hb dL_law_187 ?_
    refine lv_topi (fun x_188_13 ex_188_13 => ?_)
    obtain rfl : x_188_13 = nI (i + 3) := by rw [ex_188_13]; exact nI_add i 3
    refine va_sld (i := nI (i + 3)) hx hb hX hbl hbA hS (vp_in_nI (by omega) (by omega)) dL_law_188 ?_
    refine lv_topi (fun x_189_14 ex_189_14 => ?_)
    obtain rfl : x_189_14 = xs (i + 3) := by rw [ex_189_14]; rw [nI_clamp (show i + 3 < 2 ^ 31 by omega)]
    refine lv_aload_n hx hb dL_law_189 rfl (lv_at hl 2 rfl) ?_
    refine lv_iload hx hb dL_law_190 (lv_at hl 1 rfl) ?_
    refine lv_iconst (v := nI 4) hx hb dL_law_192 (by decide +kernel) ?_
    refine lv_iadd hx hb dL_law_193 ?_
    refine lv_topi (fun x_194_15 ex_194_15 => ?_)
    obtain rfl : x_194_15 = nI (i + 4) := by rw [ex_194_15]; exact nI_add i 4
    refine va_sld (i := nI (i + 4)) hx hb hX hbl hbA hS (vp_in_nI (by omega) (by omega)) dL_law_194 ?_
    refine lv_topi (fun x_195_16 ex_195_16 => ?_)
    obtain rfl : x_195_16 = xs (i + 4) := by rw [ex_195_16]; rw [nI_clamp (show i + 4 < 2 ^ 31 by omega)]
    refine va_callv (va_runV (As := [.int (xs (i + 1)), .int (xs (i + 2)), .int (xs (i + 3)), .int (xs (i + 4))]) (rest := []) ⟨hx, hb, hml, hown, hts⟩ (m_unknownB l dC dI a k fn ft gn gt gm fl o hinj (xs (i + 1)) (xs (i + 2)) (xs (i + 3)) (xs (i + 4)) hbd) (cwV 4 hts gl_X1_unknown rfl rfl rfl (by decide +kernel) ⟨Nat.le_of_ble_eq_true rfl, Nat.le_of_ble_eq_true rfl⟩) (nPreV hP hK (va_recv hK hP (ci := 1) (q0 := 3) rfl rfl)) rfl rfl hl.1 rfl (lv_room (Nat.le_of_ble_eq_true rfl)) dL_law_195 ⟨by show _ ≤ 1034; omega, by show _ ≤ 34835; omega⟩) hS (fun q _ h => nA0_ge hge q h) (fun q h => nA0_ge hge q h) (fun _ t H locs ht hvm _ hB _ _ hS => ?_)
    have hP : va_P (dC, dI) vwCl (nW a k fn ft gn gt gm (nI 1) o) H := by rw [← ht]; exact hB.1
    refine lv_aload_n hx hb dL_law_198 rfl (lv_at hl 4 rfl) ?_
    refine vp_callSi (W.runV (As := []) (rest := []) ⟨hx, hb, hml, hown, hts⟩ (m_thrown l dC dI a k fn ft gn gt gm (nI 1) o) (cwV 0 htw gL_law_X1_thrown rfl rfl rfl (by decide +kernel) ⟨Nat.le_of_ble_eq_true rfl, Nat.le_of_ble_eq_true rfl⟩) (nPreV hP hK (va_recv hK hP (ci := 1) (q0 := 3) rfl rfl)) rfl rfl hl.1 rfl (lv_room (Nat.le_of_ble_eq_true rfl)) dL_law_199 ⟨by show _ ≤ 1034; omega, by show _ ≤ 34835; omega⟩) (fun r_199_17 er_199_17 => ?_)
    subst er_199_17
    refine lv_iload hx hb dL_law_202 (lv_at hl 0 rfl) ?_
    refine lv_icmp_eq (tgt := 209) hx hb dL_law_204 (by decide) (fun _ => ?_) (fun c => absurd c (by decide +kernel))
    refine lv_goto (tgt := 795) hx hb dL_law_209 (by decide) ?_
    exact kk _ _ _ _ _ _ _ _ _ _ hrel hP hS (lv_sub hl [1, 2, 3, 4, 5] rfl)
set_option maxHeartbeats 4000000 in
set_option maxRecDepth 100000 in
theorem law_reckon {p : Program} {l : Launch} {e : Env} {s : State} {m : MethodId} {below : List Frame} {meth : Method} {c : Code} {b L : Nat} {xs : Nat → Int32} {Q : State → Prop} (hst : l.stackTraces = false) (C0 : lw_At p s m meth c b L xs) {dC : Nat → ClassId} {dI : Nat → Nat → Nat} {a : Nat → Nat} {k : Nat → ClassId} (hinj : nInj a) (hge : ∀ i : Nat, i < 8 → s.heap.size ≤ a i) {sa sb : Nat} (hz : nPz s.heap.size sa sb s) {fn ft gn gt gm : Nat → Int32} {fl : Int32} {o : Nat → Int64} (hrel : nRel fn ft gn gt) {i : Nat} (hi : i + 5 ≤ L) (hL : L ≤ 2560) {H : Heap} {locs : List Loc} (hK : va_K (dC, dI) vwCl (nT k) s) (hP : va_P (dC, dI) vwCl (nW a k fn ft gn gt gm fl o) H) (hS : va_S (fun q => s.heap.size ≤ q) s.heap H locs) {cells slots : Nat} (hc : cells + 1 ≤ 1034) (hs : slots + 6 ≤ 34835) {ls : Array Slot} (hl : lv_has ls 7 (nLoc b a i))
    (kk : ∀ (fn ft gn gt gm : Nat → Int32) (fl : Int32) (o : Nat → Int64) (H : Heap) (locs : List Loc) (ls : Array Slot), nRel fn ft gn gt → va_P (dC, dI) vwCl (nW a k fn ft gn gt gm fl o) H → va_S (fun q => s.heap.size ≤ q) s.heap H locs → lv_has ls 7 (nLoc b a i) → W p l e room_1 s m #[Value.ref b] below meth c H locs (cells + 1) (slots + 6) Q (F0 m 795 ls [])) :
    W p l e room_1 s m #[Value.ref b] below meth c H locs cells slots Q (F0 m 212 ls []) := by
  obtain ⟨hx, hb, hr, hml, hown, hts, hX, hbl, hlocks, hgv⟩ := C0
  have hown : s.vm.findClass RL = some m.cls := hown
  have htw : ∀ w ∈ wsL_law, w.before #[Value.ref b] s = true := fun w hw => hts w (wsL_law_in w hw)
  have hbA : ¬ (fun q : Nat => s.heap.size ≤ q) b := Nat.not_le.mpr hbl
  refine lv_aload_n hx hb dL_law_212 rfl (lv_at hl 2 rfl) ?_
  refine lv_aload_n hx hb dL_law_213 rfl (lv_at hl 1 rfl) ?_
  refine lv_iload hx hb dL_law_214 (lv_at hl 0 rfl) ?_
  refine lv_iconst (v := nI 1) hx hb dL_law_216 (by decide +kernel) ?_
  refine lv_iadd hx hb dL_law_217 ?_
  refine lv_topi (fun x_218_1 ex_218_1 => ?_)
  obtain rfl : x_218_1 = nI (i + 1) := by rw [ex_218_1]; exact nI_add i 1
  refine va_sld (i := nI (i + 1)) hx hb hX hbl hbA hS (vp_in_nI (by omega) (by omega)) dL_law_218 ?_
  refine lv_topi (fun x_219_2 ex_219_2 => ?_)
  obtain rfl : x_219_2 = xs (i + 1) := by rw [ex_219_2]; rw [nI_clamp (show i + 1 < 2 ^ 31 by omega)]
  refine lv_aload_n hx hb dL_law_219 rfl (lv_at hl 1 rfl) ?_
  refine lv_iload hx hb dL_law_220 (lv_at hl 0 rfl) ?_
  refine lv_iconst (v := nI 2) hx hb dL_law_222 (by decide +kernel) ?_
  refine lv_iadd hx hb dL_law_223 ?_
  refine lv_topi (fun x_224_3 ex_224_3 => ?_)
  obtain rfl : x_224_3 = nI (i + 2) := by rw [ex_224_3]; exact nI_add i 2
  refine va_sld (i := nI (i + 2)) hx hb hX hbl hbA hS (vp_in_nI (by omega) (by omega)) dL_law_224 ?_
  refine lv_topi (fun x_225_4 ex_225_4 => ?_)
  obtain rfl : x_225_4 = xs (i + 2) := by rw [ex_225_4]; rw [nI_clamp (show i + 2 < 2 ^ 31 by omega)]
  refine lv_aload_n hx hb dL_law_225 rfl (lv_at hl 1 rfl) ?_
  refine lv_iload hx hb dL_law_226 (lv_at hl 0 rfl) ?_
  refine lv_iconst (v := nI 3) hx hb dL_law_228 (by decide +kernel) ?_
  refine lv_iadd hx hb dL_law_229 ?_
  refine lv_topi (fun x_230_5 ex_230_5 => ?_)
  obtain rfl : x_230_5 = nI (i + 3) := by rw [ex_230_5]; exact nI_add i 3
  refine va_sld (i := nI (i + 3)) hx hb hX hbl hbA hS (vp_in_nI (by omega) (by omega)) dL_law_230 ?_
  refine lv_topi (fun x_231_6 ex_231_6 => ?_)
  obtain rfl : x_231_6 = xs (i + 3) := by rw [ex_231_6]; rw [nI_clamp (show i + 3 < 2 ^ 31 by omega)]
  refine lv_aload_n hx hb dL_law_231 rfl (lv_at hl 1 rfl) ?_
  refine lv_iload hx hb dL_law_232 (lv_at hl 0 rfl) ?_
  refine lv_iconst (v := nI 4) hx hb dL_law_234 (by decide +kernel) ?_
  refine lv_iadd hx hb dL_law_235 ?_
  refine lv_topi (fun x_236_7 ex_236_7 => ?_)
  obtain rfl : x_236_7 = nI (i + 4) := by rw [ex_236_7]; exact nI_add i 4
  refine va_sld (i := nI (i + 4)) hx hb hX hbl hbA hS (vp_in_nI (by omega) (by omega)) dL_law_236 ?_
  refine lv_topi (fun x_237_8 ex_237_8 => ?_)
  obtain rfl : x_237_8 = xs (i + 4) := by rw [ex_237_8]; rw [nI_clamp (show i + 4 < 2 ^ 31 by omega)]
  cases hbd : (nO (xs (i + 1)) 8 || nO (xs (i + 2)) 6 || nO (xs (i + 3)) 8 || nO (xs (i + 4)) 8)
  · obtain ⟨hb0, hb4⟩ := Bool.or_eq_false_iff.mp hbd
    obtain ⟨hb0, hb3⟩ := Bool.or_eq_false_iff.mp hb0
    obtain ⟨hb0, hb2⟩ := Bool.or_eq_false_iff.mp hb0
    have hb1 := hb0
    obtain ⟨sl, hsl, esl⟩ := nO_of hb1 (by decide)
    obtain ⟨kd, hkd, ekd⟩ := nO_of hb2 (by decide)
    obtain ⟨p0, hp0, ep0⟩ := nO_of hb3 (by decide)
    obtain ⟨q0, hq0, eq0⟩ := nO_of hb4 (by decide)
    rw [esl, ekd, ep0, eq0]
    refine va_calli (vx_runSW (As := [.ref (a 0), .int (nI sl), .int (nI kd), .int (nI p0), .int (nI q0)]) (rest := []) ⟨hx, hb, hml, hown, hts⟩ (w_reckon l dC dI a k fn ft gn gt gm fl o hinj sl kd p0 q0 hsl hkd hp0 hq0) (vx_cwSW 5 htw gL_law_L_reckon rfl rfl rfl (by decide +kernel) ⟨Nat.le_of_ble_eq_true rfl, Nat.le_of_ble_eq_true rfl⟩) (nPre hP hK) rfl rfl hl.1 rfl (lv_room (Nat.le_of_ble_eq_true rfl)) dL_law_237 ⟨by show _ ≤ 1034; omega, by show _ ≤ 34835; omega⟩) hS (fun q _ h => nA0_ge hge q h) (fun q h => nA0_ge hge q h) (fun r5 _ t H locs ht hvm er5 hB _ _ hS => ?_)
    subst er5
    have hP : va_P (dC, dI) vwCl (nW a k (nF fn (1024 * sl) 1024 (nvR fn kd p0 q0)) ft gn gt gm fl o) H := by rw [← ht]; exact hB.1
    refine lv_istore (lv' := [(5, .int (nI 0)), (4, .int (nI i)), (0, .ref b), (1, .ref (a 0)), (2, .ref (a 3)), (3, .ref (a 7))]) hx hb dL_law_240 hl (by decide) rfl (fun ls hl => ?_)
    refine lv_aload_n hx hb dL_law_242 rfl (lv_at hl 4 rfl) ?_
    refine lv_aload_n hx hb dL_law_243 rfl (lv_at hl 2 rfl) ?_
    refine lv_iload hx hb dL_law_244 (lv_at hl 1 rfl) ?_
    refine lv_iconst (v := nI 1) hx hb dL_law_246 (by decide +kernel) ?_
    refine lv_iadd hx hb dL_law_247 ?_
    refine lv_topi (fun x_248_9 ex_248_9 => ?_)
    obtain rfl : x_248_9 = nI (i + 1) := by rw [ex_248_9]; exact nI_add i 1
    refine va_sld (i := nI (i + 1)) hx hb hX hbl hbA hS (vp_in_nI (by omega) (by omega)) dL_law_248 ?_
    refine lv_topi (fun x_249_10 ex_249_10 => ?_)
    obtain rfl : x_249_10 = nI sl := by rw [ex_249_10]; rw [nI_clamp (show i + 1 < 2 ^ 31 by omega)]; exact esl
    refine lv_aload_n hx hb dL_law_249 rfl (lv_at hl 2 rfl) ?_
    refine lv_iload hx hb dL_law_250 (lv_at hl 1 rfl) ?_
    refine lv_iconst (v := nI 2) hx hb dL_law_252 (by decide +kernel) ?_
    refine lv_iadd hx hb dL_law_253 ?_
    refine lv_topi (fun x_254_11 ex_254_11 => ?_)
    obtain rfl : x_254_11 = nI (i + 2) := by rw [ex_254_11]; exact nI_add i 2
    refine va_sld (i := nI (i + 2)) hx hb hX hbl hbA hS (vp_in_nI (by omega) (by omega)) dL_law_254 ?_
    refine lv_topi (fun x_255_12 ex_255_12 => ?_)
    obtain rfl : x_255_12 = nI kd := by rw [ex_255_12]; rw [nI_clamp (show i + 2 < 2 ^ 31 by omega)]; exact ekd
    refine lv_aload_n hx hb dL_law_255 rfl (lv_at hl 2 rfl) ?_
    refine lv_iload hx hb dL_law_256 (lv_at hl 1 rfl) ?_
    refine lv_iconst (v := nI 3) hx hb dL_law_258 (by decide +kernel) ?_
    refine lv_iadd hx hb dL_law_259 ?_
    refine lv_topi (fun x_260_13 ex_260_13 => ?_)
    obtain rfl : x_260_13 = nI (i + 3) := by rw [ex_260_13]; exact nI_add i 3
    refine va_sld (i := nI (i + 3)) hx hb hX hbl hbA hS (vp_in_nI (by omega) (by omega)) dL_law_260 ?_
    refine lv_topi (fun x_261_14 ex_261_14 => ?_)
    obtain rfl : x_261_14 = nI p0 := by rw [ex_261_14]; rw [nI_clamp (show i + 3 < 2 ^ 31 by omega)]; exact ep0
    refine lv_aload_n hx hb dL_law_261 rfl (lv_at hl 2 rfl) ?_
    refine lv_iload hx hb dL_law_262 (lv_at hl 1 rfl) ?_
    refine lv_iconst (v := nI 4) hx hb dL_law_264 (by decide +kernel) ?_
    refine lv_iadd hx hb dL_law_265 ?_
    refine lv_topi (fun x_266_15 ex_266_15 => ?_)
    obtain rfl : x_266_15 = nI (i + 4) := by rw [ex_266_15]; exact nI_add i 4
    refine va_sld (i := nI (i + 4)) hx hb hX hbl hbA hS (vp_in_nI (by omega) (by omega)) dL_law_266 ?_
    refine lv_topi (fun x_267_16 ex_267_16 => ?_)
    obtain rfl : x_267_16 = nI q0 := by rw [ex_267_16]; rw [nI_clamp (show i + 4 < 2 ^ 31 by omega)]; exact eq0
    refine va_callv (va_runV (As := [.int (nI sl), .int (nI kd), .int (nI p0), .int (nI q0)]) (rest := []) ⟨hx, hb, hml, hown, hts⟩ (m_reckon l dC dI a k (nF fn (1024 * sl) 1024 (nvR fn kd p0 q0)) ft gn gt gm fl o hinj sl kd p0 q0 hsl hkd hp0 hq0) (cwV 4 hts gl_X1_reckon rfl rfl rfl (by decide +kernel) ⟨Nat.le_of_ble_eq_true rfl, Nat.le_of_ble_eq_true rfl⟩) (nPreV hP hK (va_recv hK hP (ci := 1) (q0 := 3) rfl rfl)) rfl rfl hl.1 rfl (lv_room (Nat.le_of_ble_eq_true rfl)) dL_law_267 ⟨by show _ ≤ 1034; omega, by show _ ≤ 34835; omega⟩) hS (fun q _ h => nA0_ge hge q h) (fun q h => nA0_ge hge q h) (fun _ t H locs ht hvm _ hB _ _ hS => ?_)
    have hP : va_P (dC, dI) vwCl (nW a k (nF fn (1024 * sl) 1024 (nvR fn kd p0 q0)) ft (nF gn (1024 * sl) 1024 (mvR gn kd p0 q0)) gt (nF gm 0 1024 (mvR gn kd p0 q0)) (nI 0) o) H := by rw [← ht]; exact hB.1
    refine lv_aload_n hx hb dL_law_270 rfl (lv_at hl 4 rfl) ?_
    refine vp_callSi (W.runV (As := []) (rest := []) ⟨hx, hb, hml, hown, hts⟩ (m_thrown l dC dI a k (nF fn (1024 * sl) 1024 (nvR fn kd p0 q0)) ft (nF gn (1024 * sl) 1024 (mvR gn kd p0 q0)) gt (nF gm 0 1024 (mvR gn kd p0 q0)) (nI 0) o) (cwV 0 htw gL_law_X1_thrown rfl rfl rfl (by decide +kernel) ⟨Nat.le_of_ble_eq_true rfl, Nat.le_of_ble_eq_true rfl⟩) (nPreV hP hK (va_recv hK hP (ci := 1) (q0 := 3) rfl rfl)) rfl rfl hl.1 rfl (lv_room (Nat.le_of_ble_eq_true rfl)) dL_law_271 ⟨by show _ ≤ 1034; omega, by show _ ≤ 34835; omega⟩) (fun r_271_17 er_271_17 => ?_)
    subst er_271_17
    refine lv_iload hx hb dL_law_274 (lv_at hl 0 rfl) ?_
    refine lv_icmp_eq (tgt := 281) hx hb dL_law_276 (by decide) (fun _ => ?_) (fun c => absurd c (by decide +kernel))
    refine lv_goto (tgt := 795) hx hb dL_law_281 (by decide) ?_
    refine W.widen (k := cells + 1) (n := slots + 6) (by omega) (by omega) ?_
    exact kk _ _ _ _ _ _ _ _ _ _ (nRel_fill hrel hsl (fun _ hw => nR_eq hrel hp0 hq0 hw)) hP hS (lv_sub hl [1, 2, 3, 4, 5] rfl)
  · refine va_calli (vx_runSW (As := [.ref (a 0), .int (xs (i + 1)), .int (xs (i + 2)), .int (xs (i + 3)), .int (xs (i + 4))]) (rest := []) ⟨hx, hb, hml, hown, hts⟩ (wB_reckon l dC dI a k fn ft gn gt gm fl o hst H.size sa sb (xs (i + 1)) (xs (i + 2)) (xs (i + 3)) (xs (i + 4)) hbd) (vx_cwSW 5 htw gL_law_L_reckon rfl rfl rfl (by decide +kernel) ⟨Nat.le_of_ble_eq_true rfl, Nat.le_of_ble_eq_true rfl⟩) (nPzw_far hz hS hP hK) rfl rfl hl.1 rfl (lv_room (Nat.le_of_ble_eq_true rfl)) dL_law_237 ⟨by show _ ≤ 1034; omega, by show _ ≤ 34835; omega⟩) hS (fun q _ h => Nat.le_trans hS.1 h) (fun q h => Nat.le_trans hS.1 h) (fun r5 _ t H1 locs1 ht hvm er5 _ _ hk9 hS => ?_)
    subst er5
    have hP : va_P (dC, dI) vwCl (nW a k fn ft gn gt gm fl o) H1 := va_P.kept hP (fun i9 q9 hq9 => hk9 q9.1 (vx_lt hP hq9) (Nat.not_le.mpr (vx_lt hP hq9)))
    refine lv_istore (lv' := [(5, .int (nI 1)), (4, .int (nI i)), (0, .ref b), (1, .ref (a 0)), (2, .ref (a 3)), (3, .ref (a 7))]) hx hb dL_law_240 hl (by decide) rfl (fun ls hl => ?_)
    refine lv_aload_n hx hb dL_law_242 rfl (lv_at hl 4 rfl) ?_
    refine lv_aload_n hx hb dL_law_243 rfl (lv_at hl 2 rfl) ?_
    refine lv_iload hx hb dL_law_244 (lv_at hl 1 rfl) ?_
    refine lv_iconst (v := nI 1) hx hb dL_law_246 (by decide +kernel) ?_
    refine lv_iadd hx hb dL_law_247 ?_
    refine lv_topi (fun x_248_9 ex_248_9 => ?_)
    obtain rfl : x_248_9 = nI (i + 1) := by rw [ex_248_9]; exact nI_add i 1
    refine va_sld (i := nI (i + 1)) hx hb hX hbl hbA hS (vp_in_nI (by omega) (by omega)) dL_law_248 ?_
    refine lv_topi (fun x_249_10 ex_249_10 => ?_)
    obtain rfl : x_249_10 = xs (i + 1) := by rw [ex_249_10]; rw [nI_clamp (show i + 1 < 2 ^ 31 by omega)]
    refine lv_aload_n hx hb dL_law_249 rfl (lv_at hl 2 rfl) ?_
    refine lv_iload hx hb dL_law_250 (lv_at hl 1 rfl) ?_
    refine lv_iconst (v := nI 2) hx hb dL_law_252 (by decide +kernel) ?_
    refine lv_iadd hx hb dL_law_253 ?_
    refine lv_topi (fun x_254_11 ex_254_11 => ?_)
    obtain rfl : x_254_11 = nI (i + 2) := by rw [ex_254_11]; exact nI_add i 2
    refine va_sld (i := nI (i + 2)) hx hb hX hbl hbA hS (vp_in_nI (by omega) (by omega)) dL_law_254 ?_
    refine lv_topi (fun x_255_12 ex_255_12 => ?_)
    obtain rfl : x_255_12 = xs (i + 2) := by rw [ex_255_12]; rw [nI_clamp (show i + 2 < 2 ^ 31 by omega)]
    refine lv_aload_n hx hb dL_law_255 rfl (lv_at hl 2 rfl) ?_
    refine lv_iload hx hb dL_law_256 (lv_at hl 1 rfl) ?_
    refine lv_iconst (v := nI 3) hx hb dL_law_258 (by decide +kernel) ?_
    refine lv_iadd hx hb dL_law_259 ?_
    refine lv_topi (fun x_260_13 ex_260_13 => ?_)
    obtain rfl : x_260_13 = nI (i + 3) := by rw [ex_260_13]; exact nI_add i 3
    refine va_sld (i := nI (i + 3)) hx hb hX hbl hbA hS (vp_in_nI (by omega) (by omega)) dL_law_260 ?_
    refine lv_topi (fun x_261_14 ex_261_14 => ?_)
    obtain rfl : x_261_14 = xs (i + 3) := by rw [ex_261_14]; rw [nI_clamp (show i + 3 < 2 ^ 31 by omega)]
    refine lv_aload_n hx hb dL_law_261 rfl (lv_at hl 2 rfl) ?_
    refine lv_iload hx hb dL_law_262 (lv_at hl 1 rfl) ?_
    refine lv_iconst (v := nI 4) hx hb dL_law_264 (by decide +kernel) ?_
    refine lv_iadd hx hb dL_law_265 ?_
    refine lv_topi (fun x_266_15 ex_266_15 => ?_)
    obtain rfl : x_266_15 = nI (i + 4) := by rw [ex_266_15]; exact nI_add i 4
    refine va_sld (i := nI (i + 4)) hx hb hX hbl hbA hS (vp_in_nI (by omega) (by omega)) dL_law_266 ?_
    refine lv_topi (fun x_267_16 ex_267_16 => ?_)
    obtain rfl : x_267_16 = xs (i + 4) := by rw [ex_267_16]; rw [nI_clamp (show i + 4 < 2 ^ 31 by omega)]
    refine va_callv (va_runV (As := [.int (xs (i + 1)), .int (xs (i + 2)), .int (xs (i + 3)), .int (xs (i + 4))]) (rest := []) ⟨hx, hb, hml, hown, hts⟩ (m_reckonB l dC dI a k fn ft gn gt gm fl o hinj (xs (i + 1)) (xs (i + 2)) (xs (i + 3)) (xs (i + 4)) hbd) (cwV 4 hts gl_X1_reckon rfl rfl rfl (by decide +kernel) ⟨Nat.le_of_ble_eq_true rfl, Nat.le_of_ble_eq_true rfl⟩) (nPreV hP hK (va_recv hK hP (ci := 1) (q0 := 3) rfl rfl)) rfl rfl hl.1 rfl (lv_room (Nat.le_of_ble_eq_true rfl)) dL_law_267 ⟨by show _ ≤ 1034; omega, by show _ ≤ 34835; omega⟩) hS (fun q _ h => nA0_ge hge q h) (fun q h => nA0_ge hge q h) (fun _ t H locs ht hvm _ hB _ _ hS => ?_)
    have hP : va_P (dC, dI) vwCl (nW a k fn ft gn gt gm (nI 1) o) H := by rw [← ht]; exact hB.1
    refine lv_aload_n hx hb dL_law_270 rfl (lv_at hl 4 rfl) ?_
    refine vp_callSi (W.runV (As := []) (rest := []) ⟨hx, hb, hml, hown, hts⟩ (m_thrown l dC dI a k fn ft gn gt gm (nI 1) o) (cwV 0 htw gL_law_X1_thrown rfl rfl rfl (by decide +kernel) ⟨Nat.le_of_ble_eq_true rfl, Nat.le_of_ble_eq_true rfl⟩) (nPreV hP hK (va_recv hK hP (ci := 1) (q0 := 3) rfl rfl)) rfl rfl hl.1 rfl (lv_room (Nat.le_of_ble_eq_true rfl)) dL_law_271 ⟨by show _ ≤ 1034; omega, by show _ ≤ 34835; omega⟩) (fun r_271_17 er_271_17 => ?_)
    subst er_271_17
    refine lv_iload hx hb dL_law_274 (lv_at hl 0 rfl) ?_
    refine lv_icmp_eq (tgt := 281) hx hb dL_law_276 (by decide) (fun _ => ?_) (fun c => absurd c (by decide +kernel))
    refine lv_goto (tgt := 795) hx hb dL_law_281 (by decide) ?_
    exact kk _ _ _ _ _ _ _ _ _ _ hrel hP hS (lv_sub hl [1, 2, 3, 4, 5] rfl)
set_option maxHeartbeats 4000000 in
set_option maxRecDepth 100000 in
theorem law_choose {p : Program} {l : Launch} {e : Env} {s : State} {m : MethodId} {below : List Frame} {meth : Method} {c : Code} {b L : Nat} {xs : Nat → Int32} {Q : State → Prop} (hst : l.stackTraces = false) (C0 : lw_At p s m meth c b L xs) {dC : Nat → ClassId} {dI : Nat → Nat → Nat} {a : Nat → Nat} {k : Nat → ClassId} (hinj : nInj a) (hge : ∀ i : Nat, i < 8 → s.heap.size ≤ a i) {sa sb : Nat} (hz : nPz s.heap.size sa sb s) {fn ft gn gt gm : Nat → Int32} {fl : Int32} {o : Nat → Int64} (hrel : nRel fn ft gn gt) {i : Nat} (hi : i + 5 ≤ L) (hL : L ≤ 2560) {H : Heap} {locs : List Loc} (hK : va_K (dC, dI) vwCl (nT k) s) (hP : va_P (dC, dI) vwCl (nW a k fn ft gn gt gm fl o) H) (hS : va_S (fun q => s.heap.size ≤ q) s.heap H locs) {cells slots : Nat} (hc : cells + 1 ≤ 1034) (hs : slots + 6 ≤ 34835) {ls : Array Slot} (hl : lv_has ls 7 (nLoc b a i))
    (kk : ∀ (fn ft gn gt gm : Nat → Int32) (fl : Int32) (o : Nat → Int64) (H : Heap) (locs : List Loc) (ls : Array Slot), nRel fn ft gn gt → va_P (dC, dI) vwCl (nW a k fn ft gn gt gm fl o) H → va_S (fun q => s.heap.size ≤ q) s.heap H locs → lv_has ls 7 (nLoc b a i) → W p l e room_1 s m #[Value.ref b] below meth c H locs (cells + 1) (slots + 6) Q (F0 m 795 ls [])) :
    W p l e room_1 s m #[Value.ref b] below meth c H locs cells slots Q (F0 m 376 ls []) := by
  obtain ⟨hx, hb, hr, hml, hown, hts, hX, hbl, hlocks, hgv⟩ := C0
  have hown : s.vm.findClass RL = some m.cls := hown
  have htw : ∀ w ∈ wsL_law, w.before #[Value.ref b] s = true := fun w hw => hts w (wsL_law_in w hw)
  have hbA : ¬ (fun q : Nat => s.heap.size ≤ q) b := Nat.not_le.mpr hbl
  refine lv_aload_n hx hb dL_law_376 rfl (lv_at hl 2 rfl) ?_
  refine lv_aload_n hx hb dL_law_377 rfl (lv_at hl 1 rfl) ?_
  refine lv_iload hx hb dL_law_378 (lv_at hl 0 rfl) ?_
  refine lv_iconst (v := nI 1) hx hb dL_law_380 (by decide +kernel) ?_
  refine lv_iadd hx hb dL_law_381 ?_
  refine lv_topi (fun x_382_1 ex_382_1 => ?_)
  obtain rfl : x_382_1 = nI (i + 1) := by rw [ex_382_1]; exact nI_add i 1
  refine va_sld (i := nI (i + 1)) hx hb hX hbl hbA hS (vp_in_nI (by omega) (by omega)) dL_law_382 ?_
  refine lv_topi (fun x_383_2 ex_383_2 => ?_)
  obtain rfl : x_383_2 = xs (i + 1) := by rw [ex_383_2]; rw [nI_clamp (show i + 1 < 2 ^ 31 by omega)]
  refine lv_aload_n hx hb dL_law_383 rfl (lv_at hl 1 rfl) ?_
  refine lv_iload hx hb dL_law_384 (lv_at hl 0 rfl) ?_
  refine lv_iconst (v := nI 2) hx hb dL_law_386 (by decide +kernel) ?_
  refine lv_iadd hx hb dL_law_387 ?_
  refine lv_topi (fun x_388_3 ex_388_3 => ?_)
  obtain rfl : x_388_3 = nI (i + 2) := by rw [ex_388_3]; exact nI_add i 2
  refine va_sld (i := nI (i + 2)) hx hb hX hbl hbA hS (vp_in_nI (by omega) (by omega)) dL_law_388 ?_
  refine lv_topi (fun x_389_4 ex_389_4 => ?_)
  obtain rfl : x_389_4 = xs (i + 2) := by rw [ex_389_4]; rw [nI_clamp (show i + 2 < 2 ^ 31 by omega)]
  refine lv_aload_n hx hb dL_law_389 rfl (lv_at hl 1 rfl) ?_
  refine lv_iload hx hb dL_law_390 (lv_at hl 0 rfl) ?_
  refine lv_iconst (v := nI 3) hx hb dL_law_392 (by decide +kernel) ?_
  refine lv_iadd hx hb dL_law_393 ?_
  refine lv_topi (fun x_394_5 ex_394_5 => ?_)
  obtain rfl : x_394_5 = nI (i + 3) := by rw [ex_394_5]; exact nI_add i 3
  refine va_sld (i := nI (i + 3)) hx hb hX hbl hbA hS (vp_in_nI (by omega) (by omega)) dL_law_394 ?_
  refine lv_topi (fun x_395_6 ex_395_6 => ?_)
  obtain rfl : x_395_6 = xs (i + 3) := by rw [ex_395_6]; rw [nI_clamp (show i + 3 < 2 ^ 31 by omega)]
  refine lv_aload_n hx hb dL_law_395 rfl (lv_at hl 1 rfl) ?_
  refine lv_iload hx hb dL_law_396 (lv_at hl 0 rfl) ?_
  refine lv_iconst (v := nI 4) hx hb dL_law_398 (by decide +kernel) ?_
  refine lv_iadd hx hb dL_law_399 ?_
  refine lv_topi (fun x_400_7 ex_400_7 => ?_)
  obtain rfl : x_400_7 = nI (i + 4) := by rw [ex_400_7]; exact nI_add i 4
  refine va_sld (i := nI (i + 4)) hx hb hX hbl hbA hS (vp_in_nI (by omega) (by omega)) dL_law_400 ?_
  refine lv_topi (fun x_401_8 ex_401_8 => ?_)
  obtain rfl : x_401_8 = xs (i + 4) := by rw [ex_401_8]; rw [nI_clamp (show i + 4 < 2 ^ 31 by omega)]
  cases hbd : (nO (xs (i + 1)) 8 || nO (xs (i + 2)) 8 || nO (xs (i + 3)) 8 || nO (xs (i + 4)) 8)
  · obtain ⟨hb0, hb4⟩ := Bool.or_eq_false_iff.mp hbd
    obtain ⟨hb0, hb3⟩ := Bool.or_eq_false_iff.mp hb0
    obtain ⟨hb0, hb2⟩ := Bool.or_eq_false_iff.mp hb0
    have hb1 := hb0
    obtain ⟨sl, hsl, esl⟩ := nO_of hb1 (by decide)
    obtain ⟨tr, htr, etr⟩ := nO_of hb2 (by decide)
    obtain ⟨p0, hp0, ep0⟩ := nO_of hb3 (by decide)
    obtain ⟨q0, hq0, eq0⟩ := nO_of hb4 (by decide)
    rw [esl, etr, ep0, eq0]
    refine va_calli (vx_runSW (As := [.ref (a 0), .int (nI sl), .int (nI tr), .int (nI p0), .int (nI q0)]) (rest := []) ⟨hx, hb, hml, hown, hts⟩ (w_choose l dC dI a k fn ft gn gt gm fl o hinj sl tr p0 q0 hsl htr hp0 hq0) (vx_cwSW 5 htw gL_law_L_choose rfl rfl rfl (by decide +kernel) ⟨Nat.le_of_ble_eq_true rfl, Nat.le_of_ble_eq_true rfl⟩) (nPre hP hK) rfl rfl hl.1 rfl (lv_room (Nat.le_of_ble_eq_true rfl)) dL_law_401 ⟨by show _ ≤ 1034; omega, by show _ ≤ 34835; omega⟩) hS (fun q _ h => nA0_ge hge q h) (fun q h => nA0_ge hge q h) (fun r5 _ t H locs ht hvm er5 hB _ _ hS => ?_)
    subst er5
    have hP : va_P (dC, dI) vwCl (nW a k (nF fn (1024 * sl) 1024 (nvH fn ft tr p0 q0)) ft gn gt gm fl o) H := by rw [← ht]; exact hB.1
    refine lv_istore (lv' := [(5, .int (nI 0)), (4, .int (nI i)), (0, .ref b), (1, .ref (a 0)), (2, .ref (a 3)), (3, .ref (a 7))]) hx hb dL_law_404 hl (by decide) rfl (fun ls hl => ?_)
    refine lv_aload_n hx hb dL_law_406 rfl (lv_at hl 4 rfl) ?_
    refine lv_aload_n hx hb dL_law_407 rfl (lv_at hl 2 rfl) ?_
    refine lv_iload hx hb dL_law_408 (lv_at hl 1 rfl) ?_
    refine lv_iconst (v := nI 1) hx hb dL_law_410 (by decide +kernel) ?_
    refine lv_iadd hx hb dL_law_411 ?_
    refine lv_topi (fun x_412_9 ex_412_9 => ?_)
    obtain rfl : x_412_9 = nI (i + 1) := by rw [ex_412_9]; exact nI_add i 1
    refine va_sld (i := nI (i + 1)) hx hb hX hbl hbA hS (vp_in_nI (by omega) (by omega)) dL_law_412 ?_
    refine lv_topi (fun x_413_10 ex_413_10 => ?_)
    obtain rfl : x_413_10 = nI sl := by rw [ex_413_10]; rw [nI_clamp (show i + 1 < 2 ^ 31 by omega)]; exact esl
    refine lv_aload_n hx hb dL_law_413 rfl (lv_at hl 2 rfl) ?_
    refine lv_iload hx hb dL_law_414 (lv_at hl 1 rfl) ?_
    refine lv_iconst (v := nI 2) hx hb dL_law_416 (by decide +kernel) ?_
    refine lv_iadd hx hb dL_law_417 ?_
    refine lv_topi (fun x_418_11 ex_418_11 => ?_)
    obtain rfl : x_418_11 = nI (i + 2) := by rw [ex_418_11]; exact nI_add i 2
    refine va_sld (i := nI (i + 2)) hx hb hX hbl hbA hS (vp_in_nI (by omega) (by omega)) dL_law_418 ?_
    refine lv_topi (fun x_419_12 ex_419_12 => ?_)
    obtain rfl : x_419_12 = nI tr := by rw [ex_419_12]; rw [nI_clamp (show i + 2 < 2 ^ 31 by omega)]; exact etr
    refine lv_aload_n hx hb dL_law_419 rfl (lv_at hl 2 rfl) ?_
    refine lv_iload hx hb dL_law_420 (lv_at hl 1 rfl) ?_
    refine lv_iconst (v := nI 3) hx hb dL_law_422 (by decide +kernel) ?_
    refine lv_iadd hx hb dL_law_423 ?_
    refine lv_topi (fun x_424_13 ex_424_13 => ?_)
    obtain rfl : x_424_13 = nI (i + 3) := by rw [ex_424_13]; exact nI_add i 3
    refine va_sld (i := nI (i + 3)) hx hb hX hbl hbA hS (vp_in_nI (by omega) (by omega)) dL_law_424 ?_
    refine lv_topi (fun x_425_14 ex_425_14 => ?_)
    obtain rfl : x_425_14 = nI p0 := by rw [ex_425_14]; rw [nI_clamp (show i + 3 < 2 ^ 31 by omega)]; exact ep0
    refine lv_aload_n hx hb dL_law_425 rfl (lv_at hl 2 rfl) ?_
    refine lv_iload hx hb dL_law_426 (lv_at hl 1 rfl) ?_
    refine lv_iconst (v := nI 4) hx hb dL_law_428 (by decide +kernel) ?_
    refine lv_iadd hx hb dL_law_429 ?_
    refine lv_topi (fun x_430_15 ex_430_15 => ?_)
    obtain rfl : x_430_15 = nI (i + 4) := by rw [ex_430_15]; exact nI_add i 4
    refine va_sld (i := nI (i + 4)) hx hb hX hbl hbA hS (vp_in_nI (by omega) (by omega)) dL_law_430 ?_
    refine lv_topi (fun x_431_16 ex_431_16 => ?_)
    obtain rfl : x_431_16 = nI q0 := by rw [ex_431_16]; rw [nI_clamp (show i + 4 < 2 ^ 31 by omega)]; exact eq0
    refine va_callv (va_runV (As := [.int (nI sl), .int (nI tr), .int (nI p0), .int (nI q0)]) (rest := []) ⟨hx, hb, hml, hown, hts⟩ (m_choose l dC dI a k (nF fn (1024 * sl) 1024 (nvH fn ft tr p0 q0)) ft gn gt gm fl o hinj (fun t w => bt (ft w) t) hrel.2 sl tr p0 q0 hsl htr hp0 hq0) (cwV 4 hts gl_X1_choose rfl rfl rfl (by decide +kernel) ⟨Nat.le_of_ble_eq_true rfl, Nat.le_of_ble_eq_true rfl⟩) (nPreV hP hK (va_recv hK hP (ci := 1) (q0 := 3) rfl rfl)) rfl rfl hl.1 rfl (lv_room (Nat.le_of_ble_eq_true rfl)) dL_law_431 ⟨by show _ ≤ 1034; omega, by show _ ≤ 34835; omega⟩) hS (fun q _ h => nA0_ge hge q h) (fun q h => nA0_ge hge q h) (fun _ t H locs ht hvm _ hB _ _ hS => ?_)
    have hP : va_P (dC, dI) vwCl (nW a k (nF fn (1024 * sl) 1024 (nvH fn ft tr p0 q0)) ft (nF gn (1024 * sl) 1024 (mvH gn (fun t w => bt (ft w) t) tr p0 q0)) gt (nF gm 0 1024 (mvH gn (fun t w => bt (ft w) t) tr p0 q0)) (nI 0) o) H := by rw [← ht]; exact hB.1
    refine lv_aload_n hx hb dL_law_434 rfl (lv_at hl 4 rfl) ?_
    refine vp_callSi (W.runV (As := []) (rest := []) ⟨hx, hb, hml, hown, hts⟩ (m_thrown l dC dI a k (nF fn (1024 * sl) 1024 (nvH fn ft tr p0 q0)) ft (nF gn (1024 * sl) 1024 (mvH gn (fun t w => bt (ft w) t) tr p0 q0)) gt (nF gm 0 1024 (mvH gn (fun t w => bt (ft w) t) tr p0 q0)) (nI 0) o) (cwV 0 htw gL_law_X1_thrown rfl rfl rfl (by decide +kernel) ⟨Nat.le_of_ble_eq_true rfl, Nat.le_of_ble_eq_true rfl⟩) (nPreV hP hK (va_recv hK hP (ci := 1) (q0 := 3) rfl rfl)) rfl rfl hl.1 rfl (lv_room (Nat.le_of_ble_eq_true rfl)) dL_law_435 ⟨by show _ ≤ 1034; omega, by show _ ≤ 34835; omega⟩) (fun r_435_17 er_435_17 => ?_)
    subst er_435_17
    refine lv_iload hx hb dL_law_438 (lv_at hl 0 rfl) ?_
    refine lv_icmp_eq (tgt := 445) hx hb dL_law_440 (by decide) (fun _ => ?_) (fun c => absurd c (by decide +kernel))
    refine lv_goto (tgt := 795) hx hb dL_law_445 (by decide) ?_
    refine W.widen (k := cells + 1) (n := slots + 6) (by omega) (by omega) ?_
    exact kk _ _ _ _ _ _ _ _ _ _ (nRel_fill hrel hsl (fun _ hw => nH_eq hrel hp0 hq0 hw)) hP hS (lv_sub hl [1, 2, 3, 4, 5] rfl)
  · refine va_calli (vx_runSW (As := [.ref (a 0), .int (xs (i + 1)), .int (xs (i + 2)), .int (xs (i + 3)), .int (xs (i + 4))]) (rest := []) ⟨hx, hb, hml, hown, hts⟩ (wB_choose l dC dI a k fn ft gn gt gm fl o hst H.size sa sb (xs (i + 1)) (xs (i + 2)) (xs (i + 3)) (xs (i + 4)) hbd) (vx_cwSW 5 htw gL_law_L_choose rfl rfl rfl (by decide +kernel) ⟨Nat.le_of_ble_eq_true rfl, Nat.le_of_ble_eq_true rfl⟩) (nPzw_far hz hS hP hK) rfl rfl hl.1 rfl (lv_room (Nat.le_of_ble_eq_true rfl)) dL_law_401 ⟨by show _ ≤ 1034; omega, by show _ ≤ 34835; omega⟩) hS (fun q _ h => Nat.le_trans hS.1 h) (fun q h => Nat.le_trans hS.1 h) (fun r5 _ t H1 locs1 ht hvm er5 _ _ hk9 hS => ?_)
    subst er5
    have hP : va_P (dC, dI) vwCl (nW a k fn ft gn gt gm fl o) H1 := va_P.kept hP (fun i9 q9 hq9 => hk9 q9.1 (vx_lt hP hq9) (Nat.not_le.mpr (vx_lt hP hq9)))
    refine lv_istore (lv' := [(5, .int (nI 1)), (4, .int (nI i)), (0, .ref b), (1, .ref (a 0)), (2, .ref (a 3)), (3, .ref (a 7))]) hx hb dL_law_404 hl (by decide) rfl (fun ls hl => ?_)
    refine lv_aload_n hx hb dL_law_406 rfl (lv_at hl 4 rfl) ?_
    refine lv_aload_n hx hb dL_law_407 rfl (lv_at hl 2 rfl) ?_
    refine lv_iload hx hb dL_law_408 (lv_at hl 1 rfl) ?_
    refine lv_iconst (v := nI 1) hx hb dL_law_410 (by decide +kernel) ?_
    refine lv_iadd hx hb dL_law_411 ?_
    refine lv_topi (fun x_412_9 ex_412_9 => ?_)
    obtain rfl : x_412_9 = nI (i + 1) := by rw [ex_412_9]; exact nI_add i 1
    refine va_sld (i := nI (i + 1)) hx hb hX hbl hbA hS (vp_in_nI (by omega) (by omega)) dL_law_412 ?_
    refine lv_topi (fun x_413_10 ex_413_10 => ?_)
    obtain rfl : x_413_10 = xs (i + 1) := by rw [ex_413_10]; rw [nI_clamp (show i + 1 < 2 ^ 31 by omega)]
    refine lv_aload_n hx hb dL_law_413 rfl (lv_at hl 2 rfl) ?_
    refine lv_iload hx hb dL_law_414 (lv_at hl 1 rfl) ?_
    refine lv_iconst (v := nI 2) hx hb dL_law_416 (by decide +kernel) ?_
    refine lv_iadd hx hb dL_law_417 ?_
    refine lv_topi (fun x_418_11 ex_418_11 => ?_)
    obtain rfl : x_418_11 = nI (i + 2) := by rw [ex_418_11]; exact nI_add i 2
    refine va_sld (i := nI (i + 2)) hx hb hX hbl hbA hS (vp_in_nI (by omega) (by omega)) dL_law_418 ?_
    refine lv_topi (fun x_419_12 ex_419_12 => ?_)
    obtain rfl : x_419_12 = xs (i + 2) := by rw [ex_419_12]; rw [nI_clamp (show i + 2 < 2 ^ 31 by omega)]
    refine lv_aload_n hx hb dL_law_419 rfl (lv_at hl 2 rfl) ?_
    refine lv_iload hx hb dL_law_420 (lv_at hl 1 rfl) ?_
    refine lv_iconst (v := nI 3) hx hb dL_law_422 (by decide +kernel) ?_
    refine lv_iadd hx hb dL_law_423 ?_
    refine lv_topi (fun x_424_13 ex_424_13 => ?_)
    obtain rfl : x_424_13 = nI (i + 3) := by rw [ex_424_13]; exact nI_add i 3
    refine va_sld (i := nI (i + 3)) hx hb hX hbl hbA hS (vp_in_nI (by omega) (by omega)) dL_law_424 ?_
    refine lv_topi (fun x_425_14 ex_425_14 => ?_)
    obtain rfl : x_425_14 = xs (i + 3) := by rw [ex_425_14]; rw [nI_clamp (show i + 3 < 2 ^ 31 by omega)]
    refine lv_aload_n hx hb dL_law_425 rfl (lv_at hl 2 rfl) ?_
    refine lv_iload hx hb dL_law_426 (lv_at hl 1 rfl) ?_
    refine lv_iconst (v := nI 4) hx hb dL_law_428 (by decide +kernel) ?_
    refine lv_iadd hx hb dL_law_429 ?_
    refine lv_topi (fun x_430_15 ex_430_15 => ?_)
    obtain rfl : x_430_15 = nI (i + 4) := by rw [ex_430_15]; exact nI_add i 4
    refine va_sld (i := nI (i + 4)) hx hb hX hbl hbA hS (vp_in_nI (by omega) (by omega)) dL_law_430 ?_
    refine lv_topi (fun x_431_16 ex_431_16 => ?_)
    obtain rfl : x_431_16 = xs (i + 4) := by rw [ex_431_16]; rw [nI_clamp (show i + 4 < 2 ^ 31 by omega)]
    refine va_callv (va_runV (As := [.int (xs (i + 1)), .int (xs (i + 2)), .int (xs (i + 3)), .int (xs (i + 4))]) (rest := []) ⟨hx, hb, hml, hown, hts⟩ (m_chooseB l dC dI a k fn ft gn gt gm fl o hinj (xs (i + 1)) (xs (i + 2)) (xs (i + 3)) (xs (i + 4)) hbd) (cwV 4 hts gl_X1_choose rfl rfl rfl (by decide +kernel) ⟨Nat.le_of_ble_eq_true rfl, Nat.le_of_ble_eq_true rfl⟩) (nPreV hP hK (va_recv hK hP (ci := 1) (q0 := 3) rfl rfl)) rfl rfl hl.1 rfl (lv_room (Nat.le_of_ble_eq_true rfl)) dL_law_431 ⟨by show _ ≤ 1034; omega, by show _ ≤ 34835; omega⟩) hS (fun q _ h => nA0_ge hge q h) (fun q h => nA0_ge hge q h) (fun _ t H locs ht hvm _ hB _ _ hS => ?_)
    have hP : va_P (dC, dI) vwCl (nW a k fn ft gn gt gm (nI 1) o) H := by rw [← ht]; exact hB.1
    refine lv_aload_n hx hb dL_law_434 rfl (lv_at hl 4 rfl) ?_
    refine vp_callSi (W.runV (As := []) (rest := []) ⟨hx, hb, hml, hown, hts⟩ (m_thrown l dC dI a k fn ft gn gt gm (nI 1) o) (cwV 0 htw gL_law_X1_thrown rfl rfl rfl (by decide +kernel) ⟨Nat.le_of_ble_eq_true rfl, Nat.le_of_ble_eq_true rfl⟩) (nPreV hP hK (va_recv hK hP (ci := 1) (q0 := 3) rfl rfl)) rfl rfl hl.1 rfl (lv_room (Nat.le_of_ble_eq_true rfl)) dL_law_435 ⟨by show _ ≤ 1034; omega, by show _ ≤ 34835; omega⟩) (fun r_435_17 er_435_17 => ?_)
    subst er_435_17
    refine lv_iload hx hb dL_law_438 (lv_at hl 0 rfl) ?_
    refine lv_icmp_eq (tgt := 445) hx hb dL_law_440 (by decide) (fun _ => ?_) (fun c => absurd c (by decide +kernel))
    refine lv_goto (tgt := 795) hx hb dL_law_445 (by decide) ?_
    exact kk _ _ _ _ _ _ _ _ _ _ hrel hP hS (lv_sub hl [1, 2, 3, 4, 5] rfl)
