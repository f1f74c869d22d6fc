theorem nInj_of {A : Nat → Prop} {a : Nat → Nat} {k : Nat → ClassId} {fn ft gn gt gm : Nat → Int32} {fl : Int32} {o : Nat → Int64} (h : va_D A (nW a k fn ft gn gt gm fl o)) : nInj a ∧ ∀ i : Nat, i < 8 → A (a i) := by
  have hx : ∀ i : Nat, i < 8 → ∃ e : va_E, (nW a k fn ft gn gt gm fl o)[i]? = some (a i, e) := by
    intro i hi
    rcases (show i = 0 ∨ i = 1 ∨ i = 2 ∨ i = 3 ∨ i = 4 ∨ i = 5 ∨ i = 6 ∨ i = 7 by omega) with rfl | rfl | rfl | rfl | rfl | rfl | rfl | rfl <;> exact ⟨_, rfl⟩
  refine ⟨fun i j hi hj hij => ?_, fun i hi => ?_⟩
  · obtain ⟨e1, h1⟩ := hx i hi
    obtain ⟨e2, h2⟩ := hx j hj
    exact h.1 i j _ _ h1 h2 hij
  · obtain ⟨e1, h1⟩ := hx i hi
    exact h.2 i _ h1
theorem nEnd {L j : Nat} (hL : L ≤ 2560) (c : ¬ (nI L - nI 5 < nI (5 * j))) (hj : 5 * j ≤ L) : 5 * j + 5 ≤ L := by
  rw [Int32.lt_iff_toInt_lt, pk_sub_toInt (by omega) (by omega), nI_toInt (by omega)] at c
  omega
set_option maxHeartbeats 8000000 in
set_option maxRecDepth 100000 in
/-- THE LAW'S LOOP: at its head, with 5 j ints read, x and m hold the same -/
theorem law_loop {p : Program} {l : Launch} {e : Env} {s : State} {m : MethodId} {below : List Frame} {meth : Method} {c : Code} {b L : Nat} {xs : Nat → Int32} (hst : l.stackTraces = false) (hL : L ≤ 2560) (C0 : lw_At p s m meth c b L xs) {dC : Nat → ClassId} {dI : Nat → Nat → Nat} {a : Nat → Nat} {k : Nat → ClassId} (hinj : nInj a) (hge : ∀ i : Nat, i < 8 → s.heap.size ≤ a i) {sa sb : Nat} (hz : nPz s.heap.size sa sb s) (hK : va_K (dC, dI) vwCl (nT k) s) :
    ∀ (n j : Nat), 5 * j ≤ L → L + 1 ≤ 5 * j + n → ∀ (fn ft gn gt gm : Nat → Int32) (fl : Int32) (o : Nat → Int64) (H : Heap) (locs : List Loc) (ls : Array Slot), nRel fn ft gn gt → va_P (dC, dI) vwCl (nW a k fn ft gn gt gm fl o) H → va_S (fun q => s.heap.size ≤ q) s.heap H locs → lv_has ls 7 (nLoc b a (5 * j)) → W p l e room_1 s m #[Value.ref b] below meth c H locs (8 + j) (26631 + 6 * j) (lw_Z below #[Value.ref b] s) (F0 m 23 ls []) := by
  obtain ⟨hx, hb, hr, hml, hown, hts, hX, hbl, hlocks, hgv⟩ := id C0
  have hbA : ¬ (fun q : Nat => s.heap.size ≤ q) b := Nat.not_le.mpr hbl
  intro n
  induction n with
  | zero =>
    intro j h1 h2
    exact absurd h2 (by omega)
  | succ n ih =>
    intro j hj hn fn ft gn gt gm fl o H locs ls hrel hP hS hl
    have tail : ∀ (fn ft gn gt gm : Nat → Int32) (fl : Int32) (o : Nat → Int64) (H : Heap) (locs : List Loc) (ls : Array Slot), 5 * j + 5 ≤ L → nRel fn ft gn gt → va_P (dC, dI) vwCl (nW a k fn ft gn gt gm fl o) H → va_S (fun q => s.heap.size ≤ q) s.heap H locs → lv_has ls 7 (nLoc b a (5 * j)) → W p l e room_1 s m #[Value.ref b] below meth c H locs (8 + j + 1) (26631 + 6 * j + 6) (lw_Z below #[Value.ref b] s) (F0 m 795 ls []) := by
      intro fn ft gn gt gm fl o H locs ls hj5 hrel hP hS hl
      refine lv_iinc (v := nI (5 * (j + 1))) (lv' := nLoc b a (5 * (j + 1))) hx hb dL_law_795 hl (k := 0) rfl (by rw [show Int32.ofInt 5 = nI 5 by decide +kernel, nI_add]; rfl) (by decide) rfl (fun ls hl => ?_)
      refine lv_goto (tgt := 23) hx hb dL_law_798 (by decide) ?_
      refine W.widen (k := 8 + (j + 1)) (n := 26631 + 6 * (j + 1)) (by omega) (by omega) ?_
      exact ih (j + 1) (by omega) (by omega) fn ft gn gt gm fl o H locs ls hrel hP hS hl
    refine lv_iload hx hb dL_law_23 (lv_at hl 0 rfl) ?_
    refine lv_aload_n hx hb dL_law_25 rfl (lv_at hl 1 rfl) ?_
    refine va_slen hx hb hX hbl hbA hS dL_law_26 ?_
    refine lv_iconst (v := nI 5) hx hb dL_law_27 (by decide +kernel) ?_
    refine lv_isub hx hb dL_law_28 ?_
    refine lv_icmp_gt (tgt := 801) hx hb dL_law_29 (by decide) (fun c1 => ?_) (fun c1 => ?_)
    · refine lv_iconst (v := 1) hx hb dL_law_801 (by decide +kernel) ?_
      refine va_forget (fun q hq => hS.2.2 q hq) ?_
      refine W.widen (k := 1034) (n := 34835) (by omega) (by omega) ?_
      exact lw_ret hx hb hr hlocks dL_law_802
    · have hj5 : 5 * j + 5 ≤ L := nEnd hL c1 hj
      refine lv_aload_n hx hb dL_law_32 rfl (lv_at hl 1 rfl) ?_
      refine lv_iload hx hb dL_law_33 (lv_at hl 0 rfl) ?_
      refine va_sld (i := nI (5 * j)) hx hb hX hbl hbA hS (vp_in_nI (by omega) (by omega)) dL_law_35 ?_
      refine lv_bipush (v := nI 15) hx hb dL_law_36 (by decide +kernel) ?_
      refine lv_iand hx hb dL_law_38 ?_
      obtain ⟨r, hr16, er⟩ := pk_andE (xs (nI (5 * j)).toNatClampNeg) (m := nI 15) 4 (by decide +kernel)
      refine lv_topi (fun y ey => ?_)
      obtain rfl : y = nI r := ey.trans er
      rcases (show r = 0 ∨ r = 1 ∨ r = 2 ∨ r = 3 ∨ r = 4 ∨ r = 5 ∨ r = 6 ∨ r = 7 ∨ r = 8 ∨ r = 9 ∨ 10 ≤ r by omega) with rfl | rfl | rfl | rfl | rfl | rfl | rfl | rfl | rfl | rfl | h10
      · refine lv_tableIn (off := 53) (tgt := 92) hx hb dL_law_39 (by decide +kernel) (by decide +kernel) (by decide +kernel) (by decide) ?_
        exact law_constant hst C0 hinj hge hz hrel hj5 hL hK hP hS (by omega) (by omega) hl (fun fn ft gn gt gm fl o H locs ls => tail fn ft gn gt gm fl o H locs ls hj5)
      · refine lv_tableIn (off := 101) (tgt := 140) hx hb dL_law_39 (by decide +kernel) (by decide +kernel) (by decide +kernel) (by decide) ?_
        exact law_unknown hst C0 hinj hge hz hrel hj5 hL hK hP hS (by omega) (by omega) hl (fun fn ft gn gt gm fl o H locs ls => tail fn ft gn gt gm fl o H locs ls hj5)
      · refine lv_tableIn (off := 173) (tgt := 212) hx hb dL_law_39 (by decide +kernel) (by decide +kernel) (by decide +kernel) (by decide) ?_
        exact law_reckon hst C0 hinj hge hz hrel hj5 hL hK hP hS (by omega) (by omega) hl (fun fn ft gn gt gm fl o H locs ls => tail fn ft gn gt gm fl o H locs ls hj5)
      · refine lv_tableIn (off := 245) (tgt := 284) hx hb dL_law_39 (by decide +kernel) (by decide +kernel) (by decide +kernel) (by decide) ?_
        exact law_compare hst C0 hinj hge hz hrel hj5 hL hK hP hS (by omega) (by omega) hl (fun fn ft gn gt gm fl o H locs ls => tail fn ft gn gt gm fl o H locs ls hj5)
      · refine lv_tableIn (off := 337) (tgt := 376) hx hb dL_law_39 (by decide +kernel) (by decide +kernel) (by decide +kernel) (by decide) ?_
        exact law_choose hst C0 hinj hge hz hrel hj5 hL hK hP hS (by omega) (by omega) hl (fun fn ft gn gt gm fl o H locs ls => tail fn ft gn gt gm fl o H locs ls hj5)
      · refine lv_tableIn (off := 409) (tgt := 448) hx hb dL_law_39 (by decide +kernel) (by decide +kernel) (by decide +kernel) (by decide) ?_
        exact law_join hst C0 hinj hge hz hrel hj5 hL hK hP hS (by omega) (by omega) hl (fun fn ft gn gt gm fl o H locs ls => tail fn ft gn gt gm fl o H locs ls hj5)
      · refine lv_tableIn (off := 501) (tgt := 540) hx hb dL_law_39 (by decide +kernel) (by decide +kernel) (by decide +kernel) (by decide) ?_
        exact law_value hst C0 hinj hge hz hrel hj5 hL hK hP hS (by omega) (by omega) hl (fun fn ft gn gt gm fl o H locs ls => tail fn ft gn gt gm fl o H locs ls hj5)
      · refine lv_tableIn (off := 569) (tgt := 608) hx hb dL_law_39 (by decide +kernel) (by decide +kernel) (by decide +kernel) (by decide) ?_
        exact law_way hst C0 hinj hge hz hrel hj5 hL hK hP hS (by omega) (by omega) hl (fun fn ft gn gt gm fl o H locs ls => tail fn ft gn gt gm fl o H locs ls hj5)
      · refine lv_tableIn (off := 625) (tgt := 664) hx hb dL_law_39 (by decide +kernel) (by decide +kernel) (by decide +kernel) (by decide) ?_
        exact law_same hst C0 hinj hge hz hrel hj5 hL hK hP hS (by omega) (by omega) hl (fun fn ft gn gt gm fl o H locs ls => tail fn ft gn gt gm fl o H locs ls hj5)
      · refine lv_tableIn (off := 700) (tgt := 739) hx hb dL_law_39 (by decide +kernel) (by decide +kernel) (by decide +kernel) (by decide) ?_
        exact law_tidy hst C0 hinj hge hz hrel hj5 hL hK hP hS (by omega) (by omega) hl (fun fn ft gn gt gm fl o H locs ls => tail fn ft gn gt gm fl o H locs ls hj5)
      · refine lv_tableOut (tgt := 795) hx hb dL_law_39 (Or.inr (by rw [nI_toInt (by omega)]; omega)) (by decide) ?_
        refine W.widen (k := 8 + j + 1) (n := 26631 + 6 * j + 6) (by omega) (by omega) ?_
        exact tail fn ft gn gt gm fl o H locs ls hj5 hrel hP hS hl
