set_option maxHeartbeats 4000000 in
set_option maxRecDepth 100000 in
theorem c_constant (l : Launch) (dC : Nat → ClassId) (dI : Nat → Nat → Nat) (a : Nat → Nat) (k : Nat → ClassId) (fn ft gn gt gm : Nat → Int32) (fl : Int32) (o : Nat → Int64) (hinj : nInj a) (sl : Nat) (v : Int32) (hsl : sl < 8) : Met l yX0_constant wsX0_constant ({ frames := 2, cells := 0, slots := 0, locals := 64 }) (va_Pc [.ref (a 0), .int (nI sl), .int v] (nPw dC dI a k fn ft gn gt gm fl o)) (nQv (nPw dC dI a k (nF fn (1024 * sl) 1024 (nvK v)) ft gn gt gm fl o) a) 0 0 (nA0 a) := by
  refine Met.ofW (cc := cX0_constant) (maxL := 4) (ret := none) (by decide) rfl ?_
  intro p e s m args below meth c s₁ B hml hv
  obtain ⟨rfl, hP, hK⟩ := hv
  have hx := B.exec
  have hb := B.bytes
  have hr := B.returns
  have hts := atoms_spec (ws := wsX0_constant) B.pre
  have hown : s.vm.findClass RX0 = some m.cls := findClass_of_methodNamed B.named
  have hlocks := B.notSynchronized
  have hS : va_S (nA0 a) s.heap s.heap [] := va_S.rf
  have hl := lv_entry ([.ref (a 0), .int (nI sl), .int v]) (n := 4) (Nat.le_of_ble_eq_true rfl)
  rw [lg_entry_eq]
  generalize (lg_sl ([.ref (a 0), .int (nI sl), .int v]) ++ List.replicate (4 - (lg_sl ([.ref (a 0), .int (nI sl), .int v])).length) Slot.unset).toArray = ls at hl ⊢
  have hl : lv_has ls 4 [(0, .ref (a 0)), (1, .int (nI sl)), (2, .int v)] := hl
  refine lv_iload_n hx hb dX0_constant_0 rfl (lv_at hl 1 rfl) ?_
  refine lv_bipush (v := nI 7) hx hb dX0_constant_1 (by decide +kernel) ?_
  refine va_csv (W.runS (As := [.int (nI sl), .int (nI 7)]) (rest := []) ⟨hx, hb, hml, hown, hts⟩ (c_needUpTo l sl 7 (by omega) (by omega)) (va_cwS 2 hts gX0_constant_X0_needUpTo rfl rfl rfl (by decide +kernel) ⟨Nat.le_of_ble_eq_true rfl, Nat.le_of_ble_eq_true rfl⟩) ⟨fun _ _ _ _ q => q, fun U hU hW => ⟨rfl, trivial⟩⟩ rfl rfl hl.1 rfl (lv_room (Nat.le_of_ble_eq_true rfl)) dX0_constant_3 ⟨Nat.zero_le _, Nat.zero_le _⟩) (fun _ => ?_)
  refine lv_iconst (v := nI 0) hx hb dX0_constant_6 (by decide +kernel) ?_
  refine lv_istore_n (lv' := [(3, .int (nI 0)), (0, .ref (a 0)), (1, .int (nI sl)), (2, .int v)]) hx hb dX0_constant_7 rfl hl (by decide) rfl (fun ls hl => ?_)
  refine nc_loop 1024 (fun w H locs ls => va_P (dC, dI) vwCl (nW a k (nF fn (1024 * sl) w (nvK v)) ft gn gt gm fl o) H ∧ va_S (nA0 a) s.heap H locs ∧ lv_has ls 4 [(3, .int (nI w)), (0, .ref (a 0)), (1, .int (nI sl)), (2, .int v)]) ⟨(by rw [nF_0]; exact hP), hS, (lv_sub hl [0, 1, 2, 3] rfl)⟩ ?_
  intro w H locs ls hw hI ih
  obtain ⟨hP, hS, hl⟩ := hI
  refine lv_iload_n hx hb dX0_constant_8 rfl (lv_at hl 0 rfl) ?_
  refine lv_sipush (v := nI 1024) hx hb dX0_constant_9 (by decide +kernel) ?_
  refine lv_icmp_ge (tgt := 33) hx hb dX0_constant_12 (by decide) (fun c1 => ?_) (fun c1 => ?_)
  · obtain rfl : w = 1024 := nHi (by decide) hw c1
    exact W.vret hx hb hr (fun t ht hW => ⟨⟨(), rfl, trivial, by rw [ht]; exact hP, va_K.moved hW.alike hK⟩, hS.F ht⟩) hS.2.2 dX0_constant_33
  · have hlt : w < 1024 := nLo (by decide) hw c1
    refine lv_aload_n hx hb dX0_constant_15 rfl (lv_at hl 1 rfl) ?_
    refine va_get (D := (dC, dI)) (ci := 0) (v := .ref (a 1)) (C := RX0) (T := TX0) (N := 2) hx hb hts inX0_constant hown hK hP 0 rfl rfl 0 (by decide) (hts (.fieldLink RX0 9 "NumberCircuits" "numbers" "[S") (by decide +kernel)) (fun _ h9 => h9) rfl dX0_constant_16 ?_
    refine lv_iload_n hx hb dX0_constant_19 rfl (lv_at hl 2 rfl) ?_
    refine lv_iload_n hx hb dX0_constant_20 rfl (lv_at hl 0 rfl) ?_
    refine vp_callSi (W.runS (As := [.int (nI sl), .int (nI w)]) (rest := [.ref (a 1)]) ⟨hx, hb, hml, hown, hts⟩ (c_place l sl w) (va_cwS 2 hts gX0_constant_X0_place rfl rfl rfl (by decide +kernel) ⟨Nat.le_of_ble_eq_true rfl, Nat.le_of_ble_eq_true rfl⟩) ⟨fun _ _ _ _ q => q, fun U hU hW => ⟨rfl, trivial⟩⟩ rfl rfl hl.1 rfl (lv_room (Nat.le_of_ble_eq_true rfl)) dX0_constant_21 ⟨Nat.zero_le _, Nat.zero_le _⟩) (fun r_21_1 er_21_1 => ?_)
    subst er_21_1
    refine lv_iload_n hx hb dX0_constant_24 rfl (lv_at hl 3 rfl) ?_
    refine lv_i2s hx hb dX0_constant_25 rfl ?_
    refine va_sast (i := nI (1024 * sl + w)) (x := v.toInt16.toInt32) hx hb hK hP (nDA hinj) hS 1 0 rfl rfl (vp_in_nI (by omega) (by decide)) dX0_constant_26 (fun H locs hP _ hS => ?_)
    have e_26_2 : upd (nF fn (1024 * sl) w (nvK v)) (nI (1024 * sl + w)).toNatClampNeg (vp_nar .short v.toInt16.toInt32) = nF fn (1024 * sl) (w + 1) (nvK v) := nF_up (by omega) rfl
    have hP : va_P (dC, dI) vwCl (nW a k (nF fn (1024 * sl) (w + 1) (nvK v)) ft gn gt gm fl o) H := by rw [← e_26_2]; exact hP
    refine lv_iinc (v := nI (w + 1)) (lv' := [(3, .int (nI (w + 1))), (0, .ref (a 0)), (1, .int (nI sl)), (2, .int v)]) hx hb dX0_constant_27 hl (k := 0) rfl (nI_1 w) (by decide) rfl (fun ls hl => ?_)
    refine lv_goto (tgt := 8) hx hb dX0_constant_30 (by decide) ?_
    exact ih hlt _ _ _ ⟨hP, hS, (lv_sub hl [0, 1, 2, 3] rfl)⟩
set_option maxHeartbeats 4000000 in
set_option maxRecDepth 100000 in
theorem c_unknown (l : Launch) (dC : Nat → ClassId) (dI : Nat → Nat → Nat) (a : Nat → Nat) (k : Nat → ClassId) (fn ft gn gt gm : Nat → Int32) (fl : Int32) (o : Nat → Int64) (hinj : nInj a) (sl fi ct : Nat) (lo : Int32) (hsl : sl < 8) (hfi : fi ≤ 10) (hct : fi + ct ≤ 10) : Met l yX0_unknown wsX0_unknown ({ frames := 2, cells := 0, slots := 0, locals := 64 }) (va_Pc [.ref (a 0), .int (nI sl), .int (nI fi), .int (nI ct), .int lo] (nPw dC dI a k fn ft gn gt gm fl o)) (nQv (nPw dC dI a k (nF fn (1024 * sl) 1024 (nvU fi ct lo)) ft gn gt gm fl o) a) 0 0 (nA0 a) := by
  refine Met.ofW (cc := cX0_unknown) (maxL := 7) (ret := none) (by decide) rfl ?_
  intro p e s m args below meth c s₁ B hml hv
  obtain ⟨rfl, hP, hK⟩ := hv
  have hx := B.exec
  have hb := B.bytes
  have hr := B.returns
  have hts := atoms_spec (ws := wsX0_unknown) B.pre
  have hown : s.vm.findClass RX0 = some m.cls := findClass_of_methodNamed B.named
  have hlocks := B.notSynchronized
  have hS : va_S (nA0 a) s.heap s.heap [] := va_S.rf
  have hl := lv_entry ([.ref (a 0), .int (nI sl), .int (nI fi), .int (nI ct), .int lo]) (n := 7) (Nat.le_of_ble_eq_true rfl)
  rw [lg_entry_eq]
  generalize (lg_sl ([.ref (a 0), .int (nI sl), .int (nI fi), .int (nI ct), .int lo]) ++ List.replicate (7 - (lg_sl ([.ref (a 0), .int (nI sl), .int (nI fi), .int (nI ct), .int lo])).length) Slot.unset).toArray = ls at hl ⊢
  have hl : lv_has ls 7 [(0, .ref (a 0)), (1, .int (nI sl)), (2, .int (nI fi)), (3, .int (nI ct)), (4, .int lo)] := hl
  refine lv_iload_n hx hb dX0_unknown_0 rfl (lv_at hl 1 rfl) ?_
  refine lv_bipush (v := nI 7) hx hb dX0_unknown_1 (by decide +kernel) ?_
  refine va_csv (W.runS (As := [.int (nI sl), .int (nI 7)]) (rest := []) ⟨hx, hb, hml, hown, hts⟩ (c_needUpTo l sl 7 (by omega) (by omega)) (va_cwS 2 hts gX0_unknown_X0_needUpTo rfl rfl rfl (by decide +kernel) ⟨Nat.le_of_ble_eq_true rfl, Nat.le_of_ble_eq_true rfl⟩) ⟨fun _ _ _ _ q => q, fun U hU hW => ⟨rfl, trivial⟩⟩ rfl rfl hl.1 rfl (lv_room (Nat.le_of_ble_eq_true rfl)) dX0_unknown_3 ⟨Nat.zero_le _, Nat.zero_le _⟩) (fun _ => ?_)
  refine lv_iload_n hx hb dX0_unknown_6 rfl (lv_at hl 2 rfl) ?_
  refine lv_bipush (v := nI 10) hx hb dX0_unknown_7 (by decide +kernel) ?_
  refine va_csv (W.runS (As := [.int (nI fi), .int (nI 10)]) (rest := []) ⟨hx, hb, hml, hown, hts⟩ (c_needUpTo l fi 10 (by omega) (by omega)) (va_cwS 2 hts gX0_unknown_X0_needUpTo rfl rfl rfl (by decide +kernel) ⟨Nat.le_of_ble_eq_true rfl, Nat.le_of_ble_eq_true rfl⟩) ⟨fun _ _ _ _ q => q, fun U hU hW => ⟨rfl, trivial⟩⟩ rfl rfl hl.1 rfl (lv_room (Nat.le_of_ble_eq_true rfl)) dX0_unknown_9 ⟨Nat.zero_le _, Nat.zero_le _⟩) (fun _ => ?_)
  refine lv_iload_n hx hb dX0_unknown_12 rfl (lv_at hl 3 rfl) ?_
  refine lv_bipush (v := nI 10) hx hb dX0_unknown_13 (by decide +kernel) ?_
  refine lv_iload_n hx hb dX0_unknown_15 rfl (lv_at hl 2 rfl) ?_
  refine lv_isub hx hb dX0_unknown_16 ?_
  refine lv_topi (fun x_17_1 ex_17_1 => ?_)
  obtain rfl : x_17_1 = nI (10 - fi) := by rw [ex_17_1]; exact pk_sub (by omega)
  refine va_csv (W.runS (As := [.int (nI ct), .int (nI (10 - fi))]) (rest := []) ⟨hx, hb, hml, hown, hts⟩ (c_needUpTo l ct (10 - fi) (by omega) (by omega)) (va_cwS 2 hts gX0_unknown_X0_needUpTo rfl rfl rfl (by decide +kernel) ⟨Nat.le_of_ble_eq_true rfl, Nat.le_of_ble_eq_true rfl⟩) ⟨fun _ _ _ _ q => q, fun U hU hW => ⟨rfl, trivial⟩⟩ rfl rfl hl.1 rfl (lv_room (Nat.le_of_ble_eq_true rfl)) dX0_unknown_17 ⟨Nat.zero_le _, Nat.zero_le _⟩) (fun _ => ?_)
  refine lv_iconst (v := nI 1) hx hb dX0_unknown_20 (by decide +kernel) ?_
  refine lv_iload_n hx hb dX0_unknown_21 rfl (lv_at hl 3 rfl) ?_
  refine lv_ishl hx hb dX0_unknown_22 ?_
  refine lv_iconst (v := nI 1) hx hb dX0_unknown_23 (by decide +kernel) ?_
  refine lv_isub hx hb dX0_unknown_24 ?_
  refine lv_istore (lv' := [(5, .int (((nI 1) <<< ((nI ct) &&& 31)) - (nI 1))), (0, .ref (a 0)), (1, .int (nI sl)), (2, .int (nI fi)), (3, .int (nI ct)), (4, .int lo)]) hx hb dX0_unknown_25 hl (by decide) rfl (fun ls hl => ?_)
  refine lv_iconst (v := nI 0) hx hb dX0_unknown_27 (by decide +kernel) ?_
  refine lv_istore (lv' := [(6, .int (nI 0)), (5, .int (((nI 1) <<< ((nI ct) &&& 31)) - (nI 1))), (0, .ref (a 0)), (1, .int (nI sl)), (2, .int (nI fi)), (3, .int (nI ct)), (4, .int lo)]) hx hb dX0_unknown_28 hl (by decide) rfl (fun ls hl => ?_)
  refine nc_loop 1024 (fun w H locs ls => va_P (dC, dI) vwCl (nW a k (nF fn (1024 * sl) w (nvU fi ct lo)) ft gn gt gm fl o) H ∧ va_S (nA0 a) s.heap H locs ∧ lv_has ls 7 [(6, .int (nI w)), (5, .int ((nI 1 <<< (nI ct &&& 31)) - nI 1)), (0, .ref (a 0)), (1, .int (nI sl)), (2, .int (nI fi)), (3, .int (nI ct)), (4, .int lo)]) ⟨(by rw [nF_0]; exact hP), hS, (lv_sub hl [0, 1, 2, 3, 4, 5, 6] rfl)⟩ ?_
  intro w H locs ls hw hI ih
  obtain ⟨hP, hS, hl⟩ := hI
  refine lv_iload hx hb dX0_unknown_30 (lv_at hl 0 rfl) ?_
  refine lv_sipush (v := nI 1024) hx hb dX0_unknown_32 (by decide +kernel) ?_
  refine lv_icmp_ge (tgt := 66) hx hb dX0_unknown_35 (by decide) (fun c1 => ?_) (fun c1 => ?_)
  · obtain rfl : w = 1024 := nHi (by decide) hw c1
    exact W.vret hx hb hr (fun t ht hW => ⟨⟨(), rfl, trivial, by rw [ht]; exact hP, va_K.moved hW.alike hK⟩, hS.F ht⟩) hS.2.2 dX0_unknown_66
  · have hlt : w < 1024 := nLo (by decide) hw c1
    refine lv_aload_n hx hb dX0_unknown_38 rfl (lv_at hl 2 rfl) ?_
    refine va_get (D := (dC, dI)) (ci := 0) (v := .ref (a 1)) (C := RX0) (T := TX0) (N := 2) hx hb hts inX0_unknown hown hK hP 0 rfl rfl 0 (by decide) (hts (.fieldLink RX0 9 "NumberCircuits" "numbers" "[S") (by decide +kernel)) (fun _ h9 => h9) rfl dX0_unknown_39 ?_
    refine lv_iload_n hx hb dX0_unknown_42 rfl (lv_at hl 3 rfl) ?_
    refine lv_iload hx hb dX0_unknown_43 (lv_at hl 0 rfl) ?_
    refine vp_callSi (W.runS (As := [.int (nI sl), .int (nI w)]) (rest := [.ref (a 1)]) ⟨hx, hb, hml, hown, hts⟩ (c_place l sl w) (va_cwS 2 hts gX0_unknown_X0_place rfl rfl rfl (by decide +kernel) ⟨Nat.le_of_ble_eq_true rfl, Nat.le_of_ble_eq_true rfl⟩) ⟨fun _ _ _ _ q => q, fun U hU hW => ⟨rfl, trivial⟩⟩ rfl rfl hl.1 rfl (lv_room (Nat.le_of_ble_eq_true rfl)) dX0_unknown_45 ⟨Nat.zero_le _, Nat.zero_le _⟩) (fun r_45_2 er_45_2 => ?_)
    subst er_45_2
    refine lv_iload hx hb dX0_unknown_48 (lv_at hl 0 rfl) ?_
    refine lv_iload_n hx hb dX0_unknown_50 rfl (lv_at hl 4 rfl) ?_
    refine lv_ishr hx hb dX0_unknown_51 ?_
    refine lv_iload hx hb dX0_unknown_52 (lv_at hl 1 rfl) ?_
    refine lv_iand hx hb dX0_unknown_54 ?_
    refine lv_iload hx hb dX0_unknown_55 (lv_at hl 6 rfl) ?_
    refine lv_iadd hx hb dX0_unknown_57 ?_
    refine lv_i2s hx hb dX0_unknown_58 rfl ?_
    refine va_sast (i := nI (1024 * sl + w)) (x := ((((nI w) >>> ((nI fi) &&& 31)) &&& ((nI 1 <<< (nI ct &&& 31)) - nI 1)) + lo).toInt16.toInt32) hx hb hK hP (nDA hinj) hS 1 0 rfl rfl (vp_in_nI (by omega) (by decide)) dX0_unknown_59 (fun H locs hP _ hS => ?_)
    have e_59_3 : upd (nF fn (1024 * sl) w (nvU fi ct lo)) (nI (1024 * sl + w)).toNatClampNeg (vp_nar .short (((((nI w) >>> ((nI fi) &&& 31)) &&& ((nI 1 <<< (nI ct &&& 31)) - nI 1)) + lo).toInt16.toInt32)) = nF fn (1024 * sl) (w + 1) (nvU fi ct lo) := nF_up (by omega) rfl
    have hP : va_P (dC, dI) vwCl (nW a k (nF fn (1024 * sl) (w + 1) (nvU fi ct lo)) ft gn gt gm fl o) H := by rw [← e_59_3]; exact hP
    refine lv_iinc (v := nI (w + 1)) (lv' := [(6, .int (nI (w + 1))), (5, .int ((nI 1 <<< (nI ct &&& 31)) - nI 1)), (0, .ref (a 0)), (1, .int (nI sl)), (2, .int (nI fi)), (3, .int (nI ct)), (4, .int lo)]) hx hb dX0_unknown_60 hl (k := 0) rfl (nI_1 w) (by decide) rfl (fun ls hl => ?_)
    refine lv_goto (tgt := 30) hx hb dX0_unknown_63 (by decide) ?_
    exact ih hlt _ _ _ ⟨hP, hS, (lv_sub hl [0, 1, 2, 3, 4, 5, 6] rfl)⟩
set_option maxHeartbeats 4000000 in
set_option maxRecDepth 100000 in
theorem c_reckon (l : Launch) (dC : Nat → ClassId) (dI : Nat → Nat → Nat) (a : Nat → Nat) (k : Nat → ClassId) (fn ft gn gt gm : Nat → Int32) (fl : Int32) (o : Nat → Int64) (hinj : nInj a) (sl kd p0 q0 : Nat) (hsl : sl < 8) (hkd : kd < 6) (hp0 : p0 < 8) (hq0 : q0 < 8) : Met l yX0_reckon wsX0_reckon ({ frames := 2, cells := 0, slots := 0, locals := 64 }) (va_Pc [.ref (a 0), .int (nI sl), .int (nI kd), .int (nI p0), .int (nI q0)] (nPw dC dI a k fn ft gn gt gm fl o)) (nQv (nPw dC dI a k (nF fn (1024 * sl) 1024 (nvR fn kd p0 q0)) ft gn gt gm fl o) a) 0 0 (nA0 a) := by
  refine Met.ofW (cc := cX0_reckon) (maxL := 7) (ret := none) (by decide) rfl ?_
  intro p e s m args below meth c s₁ B hml hv
  obtain ⟨rfl, hP, hK⟩ := hv
  have hx := B.exec
  have hb := B.bytes
  have hr := B.returns
  have hts := atoms_spec (ws := wsX0_reckon) B.pre
  have hown : s.vm.findClass RX0 = some m.cls := findClass_of_methodNamed B.named
  have hlocks := B.notSynchronized
  have hS : va_S (nA0 a) s.heap s.heap [] := va_S.rf
  have hl := lv_entry ([.ref (a 0), .int (nI sl), .int (nI kd), .int (nI p0), .int (nI q0)]) (n := 7) (Nat.le_of_ble_eq_true rfl)
  rw [lg_entry_eq]
  generalize (lg_sl ([.ref (a 0), .int (nI sl), .int (nI kd), .int (nI p0), .int (nI q0)]) ++ List.replicate (7 - (lg_sl ([.ref (a 0), .int (nI sl), .int (nI kd), .int (nI p0), .int (nI q0)])).length) Slot.unset).toArray = ls at hl ⊢
  have hl : lv_has ls 7 [(0, .ref (a 0)), (1, .int (nI sl)), (2, .int (nI kd)), (3, .int (nI p0)), (4, .int (nI q0))] := hl
  refine lv_iload_n hx hb dX0_reckon_0 rfl (lv_at hl 1 rfl) ?_
  refine lv_bipush (v := nI 7) hx hb dX0_reckon_1 (by decide +kernel) ?_
  refine va_csv (W.runS (As := [.int (nI sl), .int (nI 7)]) (rest := []) ⟨hx, hb, hml, hown, hts⟩ (c_needUpTo l sl 7 (by omega) (by omega)) (va_cwS 2 hts gX0_reckon_X0_needUpTo rfl rfl rfl (by decide +kernel) ⟨Nat.le_of_ble_eq_true rfl, Nat.le_of_ble_eq_true rfl⟩) ⟨fun _ _ _ _ q => q, fun U hU hW => ⟨rfl, trivial⟩⟩ rfl rfl hl.1 rfl (lv_room (Nat.le_of_ble_eq_true rfl)) dX0_reckon_3 ⟨Nat.zero_le _, Nat.zero_le _⟩) (fun _ => ?_)
  refine lv_iload_n hx hb dX0_reckon_6 rfl (lv_at hl 2 rfl) ?_
  refine lv_iconst (v := nI 5) hx hb dX0_reckon_7 (by decide +kernel) ?_
  refine va_csv (W.runS (As := [.int (nI kd), .int (nI 5)]) (rest := []) ⟨hx, hb, hml, hown, hts⟩ (c_needUpTo l kd 5 (by omega) (by omega)) (va_cwS 2 hts gX0_reckon_X0_needUpTo rfl rfl rfl (by decide +kernel) ⟨Nat.le_of_ble_eq_true rfl, Nat.le_of_ble_eq_true rfl⟩) ⟨fun _ _ _ _ q => q, fun U hU hW => ⟨rfl, trivial⟩⟩ rfl rfl hl.1 rfl (lv_room (Nat.le_of_ble_eq_true rfl)) dX0_reckon_8 ⟨Nat.zero_le _, Nat.zero_le _⟩) (fun _ => ?_)
  refine lv_iload_n hx hb dX0_reckon_11 rfl (lv_at hl 3 rfl) ?_
  refine lv_bipush (v := nI 7) hx hb dX0_reckon_12 (by decide +kernel) ?_
  refine va_csv (W.runS (As := [.int (nI p0), .int (nI 7)]) (rest := []) ⟨hx, hb, hml, hown, hts⟩ (c_needUpTo l p0 7 (by omega) (by omega)) (va_cwS 2 hts gX0_reckon_X0_needUpTo rfl rfl rfl (by decide +kernel) ⟨Nat.le_of_ble_eq_true rfl, Nat.le_of_ble_eq_true rfl⟩) ⟨fun _ _ _ _ q => q, fun U hU hW => ⟨rfl, trivial⟩⟩ rfl rfl hl.1 rfl (lv_room (Nat.le_of_ble_eq_true rfl)) dX0_reckon_14 ⟨Nat.zero_le _, Nat.zero_le _⟩) (fun _ => ?_)
  refine lv_iload hx hb dX0_reckon_17 (lv_at hl 4 rfl) ?_
  refine lv_bipush (v := nI 7) hx hb dX0_reckon_19 (by decide +kernel) ?_
  refine va_csv (W.runS (As := [.int (nI q0), .int (nI 7)]) (rest := []) ⟨hx, hb, hml, hown, hts⟩ (c_needUpTo l q0 7 (by omega) (by omega)) (va_cwS 2 hts gX0_reckon_X0_needUpTo rfl rfl rfl (by decide +kernel) ⟨Nat.le_of_ble_eq_true rfl, Nat.le_of_ble_eq_true rfl⟩) ⟨fun _ _ _ _ q => q, fun U hU hW => ⟨rfl, trivial⟩⟩ rfl rfl hl.1 rfl (lv_room (Nat.le_of_ble_eq_true rfl)) dX0_reckon_21 ⟨Nat.zero_le _, Nat.zero_le _⟩) (fun _ => ?_)
  refine lv_iconst (v := nI 0) hx hb dX0_reckon_24 (by decide +kernel) ?_
  refine lv_istore (lv' := [(5, .int (nI 0)), (0, .ref (a 0)), (1, .int (nI sl)), (2, .int (nI kd)), (3, .int (nI p0)), (4, .int (nI q0))]) hx hb dX0_reckon_25 hl (by decide) rfl (fun ls hl => ?_)
  refine nc_loop 1024 (fun w H locs ls => va_P (dC, dI) vwCl (nW a k (nF fn (1024 * sl) w (nvR fn kd p0 q0)) ft gn gt gm fl o) H ∧ va_S (nA0 a) s.heap H locs ∧ lv_has ls 7 [(5, .int (nI w)), (0, .ref (a 0)), (1, .int (nI sl)), (2, .int (nI kd)), (3, .int (nI p0)), (4, .int (nI q0))]) ⟨(by rw [nF_0]; exact hP), hS, (lv_sub hl [0, 1, 2, 3, 4, 5] rfl)⟩ ?_
  intro w H locs ls hw hI ih
  obtain ⟨hP, hS, hl⟩ := hI
  refine lv_iload hx hb dX0_reckon_27 (lv_at hl 0 rfl) ?_
  refine lv_sipush (v := nI 1024) hx hb dX0_reckon_29 (by decide +kernel) ?_
  refine lv_icmp_ge (tgt := 84) hx hb dX0_reckon_32 (by decide) (fun c1 => ?_) (fun c1 => ?_)
  · obtain rfl : w = 1024 := nHi (by decide) hw c1
    exact W.vret hx hb hr (fun t ht hW => ⟨⟨(), rfl, trivial, by rw [ht]; exact hP, va_K.moved hW.alike hK⟩, hS.F ht⟩) hS.2.2 dX0_reckon_84
  · have hlt : w < 1024 := nLo (by decide) hw c1
    refine lv_iload_n hx hb dX0_reckon_35 rfl (lv_at hl 3 rfl) ?_
    refine lv_aload_n hx hb dX0_reckon_36 rfl (lv_at hl 1 rfl) ?_
    refine va_get (D := (dC, dI)) (ci := 0) (v := .ref (a 1)) (C := RX0) (T := TX0) (N := 2) hx hb hts inX0_reckon hown hK hP 0 rfl rfl 0 (by decide) (hts (.fieldLink RX0 9 "NumberCircuits" "numbers" "[S") (by decide +kernel)) (fun _ h9 => h9) rfl dX0_reckon_37 ?_
    refine lv_iload_n hx hb dX0_reckon_40 rfl (lv_at hl 4 rfl) ?_
    refine lv_iload hx hb dX0_reckon_41 (lv_at hl 0 rfl) ?_
    refine vp_callSi (W.runS (As := [.int (nI p0), .int (nI w)]) (rest := [.ref (a 1), .int (nI kd)]) ⟨hx, hb, hml, hown, hts⟩ (c_place l p0 w) (va_cwS 2 hts gX0_reckon_X0_place rfl rfl rfl (by decide +kernel) ⟨Nat.le_of_ble_eq_true rfl, Nat.le_of_ble_eq_true rfl⟩) ⟨fun _ _ _ _ q => q, fun U hU hW => ⟨rfl, trivial⟩⟩ rfl rfl hl.1 rfl (lv_room (Nat.le_of_ble_eq_true rfl)) dX0_reckon_43 ⟨Nat.zero_le _, Nat.zero_le _⟩) (fun r_43_1 er_43_1 => ?_)
    subst er_43_1
    refine va_sald (i := nI (1024 * p0 + w)) hx hb hK hP 1 0 rfl rfl (vp_in_nI (by omega) (by decide)) dX0_reckon_46 ?_
    refine lv_topi (fun x_47_2 ex_47_2 => ?_)
    obtain rfl : x_47_2 = fn (1024 * p0 + w) := by rw [ex_47_2]; rw [nI_clamp (show 1024 * p0 + w < 2 ^ 31 by omega)]; exact nF_r hlt
    refine lv_aload_n hx hb dX0_reckon_47 rfl (lv_at hl 1 rfl) ?_
    refine va_get (D := (dC, dI)) (ci := 0) (v := .ref (a 1)) (C := RX0) (T := TX0) (N := 2) hx hb hts inX0_reckon hown hK hP 0 rfl rfl 0 (by decide) (hts (.fieldLink RX0 9 "NumberCircuits" "numbers" "[S") (by decide +kernel)) (fun _ h9 => h9) rfl dX0_reckon_48 ?_
    refine lv_iload hx hb dX0_reckon_51 (lv_at hl 5 rfl) ?_
    refine lv_iload hx hb dX0_reckon_53 (lv_at hl 0 rfl) ?_
    refine vp_callSi (W.runS (As := [.int (nI q0), .int (nI w)]) (rest := [.ref (a 1), .int (fn (1024 * p0 + w)), .int (nI kd)]) ⟨hx, hb, hml, hown, hts⟩ (c_place l q0 w) (va_cwS 2 hts gX0_reckon_X0_place rfl rfl rfl (by decide +kernel) ⟨Nat.le_of_ble_eq_true rfl, Nat.le_of_ble_eq_true rfl⟩) ⟨fun _ _ _ _ q => q, fun U hU hW => ⟨rfl, trivial⟩⟩ rfl rfl hl.1 rfl (lv_room (Nat.le_of_ble_eq_true rfl)) dX0_reckon_55 ⟨Nat.zero_le _, Nat.zero_le _⟩) (fun r_55_3 er_55_3 => ?_)
    subst er_55_3
    refine va_sald (i := nI (1024 * q0 + w)) hx hb hK hP 1 0 rfl rfl (vp_in_nI (by omega) (by decide)) dX0_reckon_58 ?_
    refine lv_topi (fun x_59_4 ex_59_4 => ?_)
    obtain rfl : x_59_4 = fn (1024 * q0 + w) := by rw [ex_59_4]; rw [nI_clamp (show 1024 * q0 + w < 2 ^ 31 by omega)]; exact nF_r hlt
    refine vp_callSi (W.runS (As := [.int (nI kd), .int (fn (1024 * p0 + w)), .int (fn (1024 * q0 + w))]) (rest := []) ⟨hx, hb, hml, hown, hts⟩ (c_reckoned l kd (fn (1024 * p0 + w)) (fn (1024 * q0 + w)) hkd) (va_cwS 3 hts gX0_reckon_X0_reckoned rfl rfl rfl (by decide +kernel) ⟨Nat.le_of_ble_eq_true rfl, Nat.le_of_ble_eq_true rfl⟩) ⟨fun _ _ _ _ q => q, fun U hU hW => ⟨rfl, trivial⟩⟩ rfl rfl hl.1 rfl (lv_room (Nat.le_of_ble_eq_true rfl)) dX0_reckon_59 ⟨Nat.zero_le _, Nat.zero_le _⟩) (fun r_59_5 er_59_5 => ?_)
    subst er_59_5
    refine lv_istore (lv' := [(6, .int (nR kd (fn (1024 * p0 + w)) (fn (1024 * q0 + w)))), (5, .int (nI w)), (0, .ref (a 0)), (1, .int (nI sl)), (2, .int (nI kd)), (3, .int (nI p0)), (4, .int (nI q0))]) hx hb dX0_reckon_62 hl (by decide) rfl (fun ls hl => ?_)
    refine lv_aload_n hx hb dX0_reckon_64 rfl (lv_at hl 2 rfl) ?_
    refine va_get (D := (dC, dI)) (ci := 0) (v := .ref (a 1)) (C := RX0) (T := TX0) (N := 2) hx hb hts inX0_reckon hown hK hP 0 rfl rfl 0 (by decide) (hts (.fieldLink RX0 9 "NumberCircuits" "numbers" "[S") (by decide +kernel)) (fun _ h9 => h9) rfl dX0_reckon_65 ?_
    refine lv_iload_n hx hb dX0_reckon_68 rfl (lv_at hl 3 rfl) ?_
    refine lv_iload hx hb dX0_reckon_69 (lv_at hl 1 rfl) ?_
    refine vp_callSi (W.runS (As := [.int (nI sl), .int (nI w)]) (rest := [.ref (a 1)]) ⟨hx, hb, hml, hown, hts⟩ (c_place l sl w) (va_cwS 2 hts gX0_reckon_X0_place rfl rfl rfl (by decide +kernel) ⟨Nat.le_of_ble_eq_true rfl, Nat.le_of_ble_eq_true rfl⟩) ⟨fun _ _ _ _ q => q, fun U hU hW => ⟨rfl, trivial⟩⟩ rfl rfl hl.1 rfl (lv_room (Nat.le_of_ble_eq_true rfl)) dX0_reckon_71 ⟨Nat.zero_le _, Nat.zero_le _⟩) (fun r_71_6 er_71_6 => ?_)
    subst er_71_6
    refine lv_iload hx hb dX0_reckon_74 (lv_at hl 0 rfl) ?_
    refine lv_i2s hx hb dX0_reckon_76 rfl ?_
    refine va_sast (i := nI (1024 * sl + w)) (x := (nR kd (fn (1024 * p0 + w)) (fn (1024 * q0 + w))).toInt16.toInt32) hx hb hK hP (nDA hinj) hS 1 0 rfl rfl (vp_in_nI (by omega) (by decide)) dX0_reckon_77 (fun H locs hP _ hS => ?_)
    have e_77_7 : upd (nF fn (1024 * sl) w (nvR fn kd p0 q0)) (nI (1024 * sl + w)).toNatClampNeg (vp_nar .short ((nR kd (fn (1024 * p0 + w)) (fn (1024 * q0 + w))).toInt16.toInt32)) = nF fn (1024 * sl) (w + 1) (nvR fn kd p0 q0) := nF_up (by omega) rfl
    have hP : va_P (dC, dI) vwCl (nW a k (nF fn (1024 * sl) (w + 1) (nvR fn kd p0 q0)) ft gn gt gm fl o) H := by rw [← e_77_7]; exact hP
    refine lv_iinc (v := nI (w + 1)) (lv' := [(5, .int (nI (w + 1))), (6, .int (nR kd (fn (1024 * p0 + w)) (fn (1024 * q0 + w)))), (0, .ref (a 0)), (1, .int (nI sl)), (2, .int (nI kd)), (3, .int (nI p0)), (4, .int (nI q0))]) hx hb dX0_reckon_78 hl (k := 1) rfl (nI_1 w) (by decide) rfl (fun ls hl => ?_)
    refine lv_goto (tgt := 27) hx hb dX0_reckon_81 (by decide) ?_
    exact ih hlt _ _ _ ⟨hP, hS, (lv_sub hl [0, 2, 3, 4, 5, 6] rfl)⟩
set_option maxHeartbeats 4000000 in
set_option maxRecDepth 100000 in
theorem c_compare (l : Launch) (dC : Nat → ClassId) (dI : Nat → Nat → Nat) (a : Nat → Nat) (k : Nat → ClassId) (fn ft gn gt gm : Nat → Int32) (fl : Int32) (o : Nat → Int64) (hinj : nInj a) (tr kd p0 q0 : Nat) (htr : tr < 8) (hkd : kd < 4) (hp0 : p0 < 8) (hq0 : q0 < 8) : Met l yX0_compare wsX0_compare ({ frames := 2, cells := 0, slots := 0, locals := 64 }) (va_Pc [.ref (a 0), .int (nI tr), .int (nI kd), .int (nI p0), .int (nI q0)] (nPw dC dI a k fn ft gn gt gm fl o)) (nQi (nI (nN (nyC fn kd p0 q0) 1024)) (nPw dC dI a k fn (nF ft 0 1024 (nvT ft tr (nyC fn kd p0 q0))) gn gt gm fl o) a) 0 0 (nA0 a) := by
  refine Met.ofW (cc := cX0_compare) (maxL := 8) (ret := (some .int)) (by decide) rfl ?_
  intro p e s m args below meth c s₁ B hml hv
  obtain ⟨rfl, hP, hK⟩ := hv
  have hx := B.exec
  have hb := B.bytes
  have hr := B.returns
  have hts := atoms_spec (ws := wsX0_compare) B.pre
  have hown : s.vm.findClass RX0 = some m.cls := findClass_of_methodNamed B.named
  have hlocks := B.notSynchronized
  have hS : va_S (nA0 a) s.heap s.heap [] := va_S.rf
  have hl := lv_entry ([.ref (a 0), .int (nI tr), .int (nI kd), .int (nI p0), .int (nI q0)]) (n := 8) (Nat.le_of_ble_eq_true rfl)
  rw [lg_entry_eq]
  generalize (lg_sl ([.ref (a 0), .int (nI tr), .int (nI kd), .int (nI p0), .int (nI q0)]) ++ List.replicate (8 - (lg_sl ([.ref (a 0), .int (nI tr), .int (nI kd), .int (nI p0), .int (nI q0)])).length) Slot.unset).toArray = ls at hl ⊢
  have hl : lv_has ls 8 [(0, .ref (a 0)), (1, .int (nI tr)), (2, .int (nI kd)), (3, .int (nI p0)), (4, .int (nI q0))] := hl
  refine lv_iload_n hx hb dX0_compare_0 rfl (lv_at hl 1 rfl) ?_
  refine lv_bipush (v := nI 7) hx hb dX0_compare_1 (by decide +kernel) ?_
  refine va_csv (W.runS (As := [.int (nI tr), .int (nI 7)]) (rest := []) ⟨hx, hb, hml, hown, hts⟩ (c_needUpTo l tr 7 (by omega) (by omega)) (va_cwS 2 hts gX0_compare_X0_needUpTo rfl rfl rfl (by decide +kernel) ⟨Nat.le_of_ble_eq_true rfl, Nat.le_of_ble_eq_true rfl⟩) ⟨fun _ _ _ _ q => q, fun U hU hW => ⟨rfl, trivial⟩⟩ rfl rfl hl.1 rfl (lv_room (Nat.le_of_ble_eq_true rfl)) dX0_compare_3 ⟨Nat.zero_le _, Nat.zero_le _⟩) (fun _ => ?_)
  refine lv_iload_n hx hb dX0_compare_6 rfl (lv_at hl 2 rfl) ?_
  refine lv_iconst (v := nI 3) hx hb dX0_compare_7 (by decide +kernel) ?_
  refine va_csv (W.runS (As := [.int (nI kd), .int (nI 3)]) (rest := []) ⟨hx, hb, hml, hown, hts⟩ (c_needUpTo l kd 3 (by omega) (by omega)) (va_cwS 2 hts gX0_compare_X0_needUpTo rfl rfl rfl (by decide +kernel) ⟨Nat.le_of_ble_eq_true rfl, Nat.le_of_ble_eq_true rfl⟩) ⟨fun _ _ _ _ q => q, fun U hU hW => ⟨rfl, trivial⟩⟩ rfl rfl hl.1 rfl (lv_room (Nat.le_of_ble_eq_true rfl)) dX0_compare_8 ⟨Nat.zero_le _, Nat.zero_le _⟩) (fun _ => ?_)
  refine lv_iload_n hx hb dX0_compare_11 rfl (lv_at hl 3 rfl) ?_
  refine lv_bipush (v := nI 7) hx hb dX0_compare_12 (by decide +kernel) ?_
  refine va_csv (W.runS (As := [.int (nI p0), .int (nI 7)]) (rest := []) ⟨hx, hb, hml, hown, hts⟩ (c_needUpTo l p0 7 (by omega) (by omega)) (va_cwS 2 hts gX0_compare_X0_needUpTo rfl rfl rfl (by decide +kernel) ⟨Nat.le_of_ble_eq_true rfl, Nat.le_of_ble_eq_true rfl⟩) ⟨fun _ _ _ _ q => q, fun U hU hW => ⟨rfl, trivial⟩⟩ rfl rfl hl.1 rfl (lv_room (Nat.le_of_ble_eq_true rfl)) dX0_compare_14 ⟨Nat.zero_le _, Nat.zero_le _⟩) (fun _ => ?_)
  refine lv_iload hx hb dX0_compare_17 (lv_at hl 4 rfl) ?_
  refine lv_bipush (v := nI 7) hx hb dX0_compare_19 (by decide +kernel) ?_
  refine va_csv (W.runS (As := [.int (nI q0), .int (nI 7)]) (rest := []) ⟨hx, hb, hml, hown, hts⟩ (c_needUpTo l q0 7 (by omega) (by omega)) (va_cwS 2 hts gX0_compare_X0_needUpTo rfl rfl rfl (by decide +kernel) ⟨Nat.le_of_ble_eq_true rfl, Nat.le_of_ble_eq_true rfl⟩) ⟨fun _ _ _ _ q => q, fun U hU hW => ⟨rfl, trivial⟩⟩ rfl rfl hl.1 rfl (lv_room (Nat.le_of_ble_eq_true rfl)) dX0_compare_21 ⟨Nat.zero_le _, Nat.zero_le _⟩) (fun _ => ?_)
  refine lv_iconst (v := nI 0) hx hb dX0_compare_24 (by decide +kernel) ?_
  refine lv_istore (lv' := [(5, .int (nI 0)), (0, .ref (a 0)), (1, .int (nI tr)), (2, .int (nI kd)), (3, .int (nI p0)), (4, .int (nI q0))]) hx hb dX0_compare_25 hl (by decide) rfl (fun ls hl => ?_)
  have hl : lv_has ls 8 [(5, .int (nI (nN (nyC fn kd p0 q0) 0))), (0, .ref (a 0)), (1, .int (nI tr)), (2, .int (nI kd)), (3, .int (nI p0)), (4, .int (nI q0))] := hl
  refine lv_iconst (v := nI 0) hx hb dX0_compare_27 (by decide +kernel) ?_
  refine lv_istore (lv' := [(6, .int (nI 0)), (5, .int (nI (nN (nyC fn kd p0 q0) 0))), (0, .ref (a 0)), (1, .int (nI tr)), (2, .int (nI kd)), (3, .int (nI p0)), (4, .int (nI q0))]) hx hb dX0_compare_28 hl (by decide) rfl (fun ls hl => ?_)
  refine nc_loop 1024 (fun w H locs ls => va_P (dC, dI) vwCl (nW a k fn (nF ft 0 w (nvT ft tr (nyC fn kd p0 q0))) gn gt gm fl o) H ∧ va_S (nA0 a) s.heap H locs ∧ lv_has ls 8 [(6, .int (nI w)), (5, .int (nI (nN (nyC fn kd p0 q0) w))), (0, .ref (a 0)), (1, .int (nI tr)), (2, .int (nI kd)), (3, .int (nI p0)), (4, .int (nI q0))]) ⟨(by rw [nF_0]; exact hP), hS, (lv_sub hl [0, 1, 2, 3, 4, 5, 6] rfl)⟩ ?_
  intro w H locs ls hw hI ih
  obtain ⟨hP, hS, hl⟩ := hI
  refine lv_iload hx hb dX0_compare_30 (lv_at hl 0 rfl) ?_
  refine lv_sipush (v := nI 1024) hx hb dX0_compare_32 (by decide +kernel) ?_
  refine lv_icmp_ge (tgt := 97) hx hb dX0_compare_35 (by decide) (fun c1 => ?_) (fun c1 => ?_)
  · obtain rfl : w = 1024 := nHi (by decide) hw c1
    refine lv_iload hx hb dX0_compare_97 (lv_at hl 1 rfl) ?_
    exact W.iret hx hb hr (fun t ht hW => ⟨⟨_, (), rfl, rfl, by rw [ht]; exact hP, va_K.moved hW.alike hK⟩, hS.F ht⟩) hS.2.2 dX0_compare_99
  · have hlt : w < 1024 := nLo (by decide) hw c1
    refine lv_iload_n hx hb dX0_compare_38 rfl (lv_at hl 4 rfl) ?_
    refine lv_aload_n hx hb dX0_compare_39 rfl (lv_at hl 2 rfl) ?_
    refine va_get (D := (dC, dI)) (ci := 0) (v := .ref (a 1)) (C := RX0) (T := TX0) (N := 2) hx hb hts inX0_compare hown hK hP 0 rfl rfl 0 (by decide) (hts (.fieldLink RX0 9 "NumberCircuits" "numbers" "[S") (by decide +kernel)) (fun _ h9 => h9) rfl dX0_compare_40 ?_
    refine lv_iload_n hx hb dX0_compare_43 rfl (lv_at hl 5 rfl) ?_
    refine lv_iload hx hb dX0_compare_44 (lv_at hl 0 rfl) ?_
    refine vp_callSi (W.runS (As := [.int (nI p0), .int (nI w)]) (rest := [.ref (a 1), .int (nI kd)]) ⟨hx, hb, hml, hown, hts⟩ (c_place l p0 w) (va_cwS 2 hts gX0_compare_X0_place rfl rfl rfl (by decide +kernel) ⟨Nat.le_of_ble_eq_true rfl, Nat.le_of_ble_eq_true rfl⟩) ⟨fun _ _ _ _ q => q, fun U hU hW => ⟨rfl, trivial⟩⟩ rfl rfl hl.1 rfl (lv_room (Nat.le_of_ble_eq_true rfl)) dX0_compare_46 ⟨Nat.zero_le _, Nat.zero_le _⟩) (fun r_46_1 er_46_1 => ?_)
    subst er_46_1
    refine va_sald (i := nI (1024 * p0 + w)) hx hb hK hP 1 0 rfl rfl (vp_in_nI (by omega) (by decide)) dX0_compare_49 ?_
    refine lv_topi (fun x_50_2 ex_50_2 => ?_)
    obtain rfl : x_50_2 = fn (1024 * p0 + w) := by rw [ex_50_2]; rw [nI_clamp (show 1024 * p0 + w < 2 ^ 31 by omega)]
    refine lv_aload_n hx hb dX0_compare_50 rfl (lv_at hl 2 rfl) ?_
    refine va_get (D := (dC, dI)) (ci := 0) (v := .ref (a 1)) (C := RX0) (T := TX0) (N := 2) hx hb hts inX0_compare hown hK hP 0 rfl rfl 0 (by decide) (hts (.fieldLink RX0 9 "NumberCircuits" "numbers" "[S") (by decide +kernel)) (fun _ h9 => h9) rfl dX0_compare_51 ?_
    refine lv_iload hx hb dX0_compare_54 (lv_at hl 6 rfl) ?_
    refine lv_iload hx hb dX0_compare_56 (lv_at hl 0 rfl) ?_
    refine vp_callSi (W.runS (As := [.int (nI q0), .int (nI w)]) (rest := [.ref (a 1), .int (fn (1024 * p0 + w)), .int (nI kd)]) ⟨hx, hb, hml, hown, hts⟩ (c_place l q0 w) (va_cwS 2 hts gX0_compare_X0_place rfl rfl rfl (by decide +kernel) ⟨Nat.le_of_ble_eq_true rfl, Nat.le_of_ble_eq_true rfl⟩) ⟨fun _ _ _ _ q => q, fun U hU hW => ⟨rfl, trivial⟩⟩ rfl rfl hl.1 rfl (lv_room (Nat.le_of_ble_eq_true rfl)) dX0_compare_58 ⟨Nat.zero_le _, Nat.zero_le _⟩) (fun r_58_3 er_58_3 => ?_)
    subst er_58_3
    refine va_sald (i := nI (1024 * q0 + w)) hx hb hK hP 1 0 rfl rfl (vp_in_nI (by omega) (by decide)) dX0_compare_61 ?_
    refine lv_topi (fun x_62_4 ex_62_4 => ?_)
    obtain rfl : x_62_4 = fn (1024 * q0 + w) := by rw [ex_62_4]; rw [nI_clamp (show 1024 * q0 + w < 2 ^ 31 by omega)]
    refine vp_callSi (W.runS (As := [.int (nI kd), .int (fn (1024 * p0 + w)), .int (fn (1024 * q0 + w))]) (rest := []) ⟨hx, hb, hml, hown, hts⟩ (c_compared l kd (fn (1024 * p0 + w)) (fn (1024 * q0 + w)) hkd) (va_cwS 3 hts gX0_compare_X0_compared rfl rfl rfl (by decide +kernel) ⟨Nat.le_of_ble_eq_true rfl, Nat.le_of_ble_eq_true rfl⟩) ⟨fun _ _ _ _ q => q, fun U hU hW => ⟨rfl, trivial⟩⟩ rfl rfl hl.1 rfl (lv_room (Nat.le_of_ble_eq_true rfl)) dX0_compare_62 ⟨Nat.zero_le _, Nat.zero_le _⟩) (fun r_62_5 er_62_5 => ?_)
    subst er_62_5
    refine lv_istore (lv' := [(7, .int (nb ((nyC fn kd p0 q0) w))), (6, .int (nI w)), (5, .int (nI (nN (nyC fn kd p0 q0) w))), (0, .ref (a 0)), (1, .int (nI tr)), (2, .int (nI kd)), (3, .int (nI p0)), (4, .int (nI q0))]) hx hb dX0_compare_65 hl (by decide) rfl (fun ls hl => ?_)
    refine lv_aload_n hx hb dX0_compare_67 rfl (lv_at hl 3 rfl) ?_
    refine lv_iload_n hx hb dX0_compare_68 rfl (lv_at hl 4 rfl) ?_
    refine lv_iload hx hb dX0_compare_69 (lv_at hl 1 rfl) ?_
    refine lv_iload hx hb dX0_compare_71 (lv_at hl 0 rfl) ?_
    refine va_callv (va_runV (As := [.int (nI tr), .int (nI w), .int (nb ((nyC fn kd p0 q0) w))]) (rest := []) ⟨hx, hb, hml, hown, hts⟩ (c_setTruth l dC dI a k fn (nF ft 0 w (nvT ft tr (nyC fn kd p0 q0))) gn gt gm fl o hinj tr w htr hlt ((nyC fn kd p0 q0) w)) (cwV 3 hts gX0_compare_X0_setTruth rfl rfl rfl (by decide +kernel) ⟨Nat.le_of_ble_eq_true rfl, Nat.le_of_ble_eq_true rfl⟩) (nPreV hP hK (va_recv hK hP (ci := 0) (q0 := 0) rfl rfl)) rfl rfl hl.1 rfl (lv_room (Nat.le_of_ble_eq_true rfl)) dX0_compare_73 ⟨Nat.zero_le _, Nat.zero_le _⟩) hS (fun _ _ h => h) (fun _ h => h) (fun _ t H locs ht hvm _ hB _ _ hS => ?_)
    have hP : va_P (dC, dI) vwCl (nW a k fn (upd (nF ft 0 w (nvT ft tr (nyC fn kd p0 q0))) (nI w).toNatClampNeg (nS1 (nF ft 0 w (nvT ft tr (nyC fn kd p0 q0)) w) tr ((nyC fn kd p0 q0) w))) gn gt gm fl o) H := by rw [← ht]; exact hB.1
    have e_76_6 : upd (nF ft 0 w (nvT ft tr (nyC fn kd p0 q0))) (nI w).toNatClampNeg (nS1 (nF ft 0 w (nvT ft tr (nyC fn kd p0 q0)) w) tr ((nyC fn kd p0 q0) w)) = nF ft 0 (w + 1) (nvT ft tr (nyC fn kd p0 q0)) := nF_up0 (by omega) (by rw [nF_r0]; rfl)
    have hP : va_P (dC, dI) vwCl (nW a k fn (nF ft 0 (w + 1) (nvT ft tr (nyC fn kd p0 q0))) gn gt gm fl o) H := by rw [← e_76_6]; exact hP
    refine lv_iload hx hb dX0_compare_76 (lv_at hl 2 rfl) ?_
    refine lv_iload hx hb dX0_compare_78 (lv_at hl 0 rfl) ?_
    refine lv_if_eq (tgt := 87) hx hb dX0_compare_80 (by decide) (fun c2 => ?_) (fun c2 => ?_)
    · refine lv_iconst (v := nI 0) hx hb dX0_compare_87 (by decide +kernel) ?_
      refine lv_iadd hx hb dX0_compare_88 ?_
      refine lv_topi (fun x_89_7 ex_89_7 => ?_)
      obtain rfl : x_89_7 = nI (nN (nyC fn kd p0 q0) (w + 1)) := by rw [ex_89_7]; rw [← nN_s, show (nyC fn kd p0 q0) w = false from nb_f c2]; rfl
      refine lv_istore (lv' := [(5, .int (nI (nN (nyC fn kd p0 q0) (w + 1)))), (7, .int (nb ((nyC fn kd p0 q0) w))), (6, .int (nI w)), (0, .ref (a 0)), (1, .int (nI tr)), (2, .int (nI kd)), (3, .int (nI p0)), (4, .int (nI q0))]) hx hb dX0_compare_89 hl (by decide) rfl (fun ls hl => ?_)
      refine lv_iinc (v := nI (w + 1)) (lv' := [(6, .int (nI (w + 1))), (5, .int (nI (nN (nyC fn kd p0 q0) (w + 1)))), (7, .int (nb ((nyC fn kd p0 q0) w))), (0, .ref (a 0)), (1, .int (nI tr)), (2, .int (nI kd)), (3, .int (nI p0)), (4, .int (nI q0))]) hx hb dX0_compare_91 hl (k := 2) rfl (nI_1 w) (by decide) rfl (fun ls hl => ?_)
      refine lv_goto (tgt := 30) hx hb dX0_compare_94 (by decide) ?_
      exact ih hlt _ _ _ ⟨hP, hS, (lv_sub hl [0, 1, 3, 4, 5, 6, 7] rfl)⟩
    · refine lv_iconst (v := nI 1) hx hb dX0_compare_83 (by decide +kernel) ?_
      refine lv_goto (tgt := 88) hx hb dX0_compare_84 (by decide) ?_
      refine lv_iadd hx hb dX0_compare_88 ?_
      refine lv_topi (fun x_89_7 ex_89_7 => ?_)
      obtain rfl : x_89_7 = nI (nN (nyC fn kd p0 q0) (w + 1)) := by rw [ex_89_7]; rw [← nN_s, show (nyC fn kd p0 q0) w = true from nb_t c2]; rfl
      refine lv_istore (lv' := [(5, .int (nI (nN (nyC fn kd p0 q0) (w + 1)))), (7, .int (nb ((nyC fn kd p0 q0) w))), (6, .int (nI w)), (0, .ref (a 0)), (1, .int (nI tr)), (2, .int (nI kd)), (3, .int (nI p0)), (4, .int (nI q0))]) hx hb dX0_compare_89 hl (by decide) rfl (fun ls hl => ?_)
      refine lv_iinc (v := nI (w + 1)) (lv' := [(6, .int (nI (w + 1))), (5, .int (nI (nN (nyC fn kd p0 q0) (w + 1)))), (7, .int (nb ((nyC fn kd p0 q0) w))), (0, .ref (a 0)), (1, .int (nI tr)), (2, .int (nI kd)), (3, .int (nI p0)), (4, .int (nI q0))]) hx hb dX0_compare_91 hl (k := 2) rfl (nI_1 w) (by decide) rfl (fun ls hl => ?_)
      refine lv_goto (tgt := 30) hx hb dX0_compare_94 (by decide) ?_
      exact ih hlt _ _ _ ⟨hP, hS, (lv_sub hl [0, 1, 3, 4, 5, 6, 7] rfl)⟩
set_option maxHeartbeats 4000000 in
set_option maxRecDepth 100000 in
theorem c_join (l : Launch) (dC : Nat → ClassId) (dI : Nat → Nat → Nat) (a : Nat → Nat) (k : Nat → ClassId) (fn ft gn gt gm : Nat → Int32) (fl : Int32) (o : Nat → Int64) (hinj : nInj a) (tr kd p0 q0 : Nat) (htr : tr < 8) (hkd : kd < 4) (hp0 : p0 < 8) (hq0 : q0 < 8) : Met l yX0_join wsX0_join ({ frames := 2, cells := 0, slots := 0, locals := 64 }) (va_Pc [.ref (a 0), .int (nI tr), .int (nI kd), .int (nI p0), .int (nI q0)] (nPw dC dI a k fn ft gn gt gm fl o)) (nQi (nI (nN (nyJ ft kd p0 q0) 1024)) (nPw dC dI a k fn (nF ft 0 1024 (nvT ft tr (nyJ ft kd p0 q0))) gn gt gm fl o) a) 0 0 (nA0 a) := by
  refine Met.ofW (cc := cX0_join) (maxL := 8) (ret := (some .int)) (by decide) rfl ?_
  intro p e s m args below meth c s₁ B hml hv
  obtain ⟨rfl, hP, hK⟩ := hv
  have hx := B.exec
  have hb := B.bytes
  have hr := B.returns
  have hts := atoms_spec (ws := wsX0_join) B.pre
  have hown : s.vm.findClass RX0 = some m.cls := findClass_of_methodNamed B.named
  have hlocks := B.notSynchronized
  have hS : va_S (nA0 a) s.heap s.heap [] := va_S.rf
  have hl := lv_entry ([.ref (a 0), .int (nI tr), .int (nI kd), .int (nI p0), .int (nI q0)]) (n := 8) (Nat.le_of_ble_eq_true rfl)
  rw [lg_entry_eq]
  generalize (lg_sl ([.ref (a 0), .int (nI tr), .int (nI kd), .int (nI p0), .int (nI q0)]) ++ List.replicate (8 - (lg_sl ([.ref (a 0), .int (nI tr), .int (nI kd), .int (nI p0), .int (nI q0)])).length) Slot.unset).toArray = ls at hl ⊢
  have hl : lv_has ls 8 [(0, .ref (a 0)), (1, .int (nI tr)), (2, .int (nI kd)), (3, .int (nI p0)), (4, .int (nI q0))] := hl
  refine lv_iload_n hx hb dX0_join_0 rfl (lv_at hl 1 rfl) ?_
  refine lv_bipush (v := nI 7) hx hb dX0_join_1 (by decide +kernel) ?_
  refine va_csv (W.runS (As := [.int (nI tr), .int (nI 7)]) (rest := []) ⟨hx, hb, hml, hown, hts⟩ (c_needUpTo l tr 7 (by omega) (by omega)) (va_cwS 2 hts gX0_join_X0_needUpTo rfl rfl rfl (by decide +kernel) ⟨Nat.le_of_ble_eq_true rfl, Nat.le_of_ble_eq_true rfl⟩) ⟨fun _ _ _ _ q => q, fun U hU hW => ⟨rfl, trivial⟩⟩ rfl rfl hl.1 rfl (lv_room (Nat.le_of_ble_eq_true rfl)) dX0_join_3 ⟨Nat.zero_le _, Nat.zero_le _⟩) (fun _ => ?_)
  refine lv_iload_n hx hb dX0_join_6 rfl (lv_at hl 2 rfl) ?_
  refine lv_iconst (v := nI 3) hx hb dX0_join_7 (by decide +kernel) ?_
  refine va_csv (W.runS (As := [.int (nI kd), .int (nI 3)]) (rest := []) ⟨hx, hb, hml, hown, hts⟩ (c_needUpTo l kd 3 (by omega) (by omega)) (va_cwS 2 hts gX0_join_X0_needUpTo rfl rfl rfl (by decide +kernel) ⟨Nat.le_of_ble_eq_true rfl, Nat.le_of_ble_eq_true rfl⟩) ⟨fun _ _ _ _ q => q, fun U hU hW => ⟨rfl, trivial⟩⟩ rfl rfl hl.1 rfl (lv_room (Nat.le_of_ble_eq_true rfl)) dX0_join_8 ⟨Nat.zero_le _, Nat.zero_le _⟩) (fun _ => ?_)
  refine lv_iload_n hx hb dX0_join_11 rfl (lv_at hl 3 rfl) ?_
  refine lv_bipush (v := nI 7) hx hb dX0_join_12 (by decide +kernel) ?_
  refine va_csv (W.runS (As := [.int (nI p0), .int (nI 7)]) (rest := []) ⟨hx, hb, hml, hown, hts⟩ (c_needUpTo l p0 7 (by omega) (by omega)) (va_cwS 2 hts gX0_join_X0_needUpTo rfl rfl rfl (by decide +kernel) ⟨Nat.le_of_ble_eq_true rfl, Nat.le_of_ble_eq_true rfl⟩) ⟨fun _ _ _ _ q => q, fun U hU hW => ⟨rfl, trivial⟩⟩ rfl rfl hl.1 rfl (lv_room (Nat.le_of_ble_eq_true rfl)) dX0_join_14 ⟨Nat.zero_le _, Nat.zero_le _⟩) (fun _ => ?_)
  refine lv_iload hx hb dX0_join_17 (lv_at hl 4 rfl) ?_
  refine lv_bipush (v := nI 7) hx hb dX0_join_19 (by decide +kernel) ?_
  refine va_csv (W.runS (As := [.int (nI q0), .int (nI 7)]) (rest := []) ⟨hx, hb, hml, hown, hts⟩ (c_needUpTo l q0 7 (by omega) (by omega)) (va_cwS 2 hts gX0_join_X0_needUpTo rfl rfl rfl (by decide +kernel) ⟨Nat.le_of_ble_eq_true rfl, Nat.le_of_ble_eq_true rfl⟩) ⟨fun _ _ _ _ q => q, fun U hU hW => ⟨rfl, trivial⟩⟩ rfl rfl hl.1 rfl (lv_room (Nat.le_of_ble_eq_true rfl)) dX0_join_21 ⟨Nat.zero_le _, Nat.zero_le _⟩) (fun _ => ?_)
  refine lv_iconst (v := nI 0) hx hb dX0_join_24 (by decide +kernel) ?_
  refine lv_istore (lv' := [(5, .int (nI 0)), (0, .ref (a 0)), (1, .int (nI tr)), (2, .int (nI kd)), (3, .int (nI p0)), (4, .int (nI q0))]) hx hb dX0_join_25 hl (by decide) rfl (fun ls hl => ?_)
  have hl : lv_has ls 8 [(5, .int (nI (nN (nyJ ft kd p0 q0) 0))), (0, .ref (a 0)), (1, .int (nI tr)), (2, .int (nI kd)), (3, .int (nI p0)), (4, .int (nI q0))] := hl
  refine lv_iconst (v := nI 0) hx hb dX0_join_27 (by decide +kernel) ?_
  refine lv_istore (lv' := [(6, .int (nI 0)), (5, .int (nI (nN (nyJ ft kd p0 q0) 0))), (0, .ref (a 0)), (1, .int (nI tr)), (2, .int (nI kd)), (3, .int (nI p0)), (4, .int (nI q0))]) hx hb dX0_join_28 hl (by decide) rfl (fun ls hl => ?_)
  refine nc_loop 1024 (fun w H locs ls => va_P (dC, dI) vwCl (nW a k fn (nF ft 0 w (nvT ft tr (nyJ ft kd p0 q0))) gn gt gm fl o) H ∧ va_S (nA0 a) s.heap H locs ∧ lv_has ls 8 [(6, .int (nI w)), (5, .int (nI (nN (nyJ ft kd p0 q0) w))), (0, .ref (a 0)), (1, .int (nI tr)), (2, .int (nI kd)), (3, .int (nI p0)), (4, .int (nI q0))]) ⟨(by rw [nF_0]; exact hP), hS, (lv_sub hl [0, 1, 2, 3, 4, 5, 6] rfl)⟩ ?_
  intro w H locs ls hw hI ih
  obtain ⟨hP, hS, hl⟩ := hI
  refine lv_iload hx hb dX0_join_30 (lv_at hl 0 rfl) ?_
  refine lv_sipush (v := nI 1024) hx hb dX0_join_32 (by decide +kernel) ?_
  refine lv_icmp_ge (tgt := 89) hx hb dX0_join_35 (by decide) (fun c1 => ?_) (fun c1 => ?_)
  · obtain rfl : w = 1024 := nHi (by decide) hw c1
    refine lv_iload hx hb dX0_join_89 (lv_at hl 1 rfl) ?_
    exact W.iret hx hb hr (fun t ht hW => ⟨⟨_, (), rfl, rfl, by rw [ht]; exact hP, va_K.moved hW.alike hK⟩, hS.F ht⟩) hS.2.2 dX0_join_91
  · have hlt : w < 1024 := nLo (by decide) hw c1
    refine lv_iload_n hx hb dX0_join_38 rfl (lv_at hl 4 rfl) ?_
    refine lv_aload_n hx hb dX0_join_39 rfl (lv_at hl 2 rfl) ?_
    refine lv_iload_n hx hb dX0_join_40 rfl (lv_at hl 5 rfl) ?_
    refine lv_iload hx hb dX0_join_41 (lv_at hl 0 rfl) ?_
    refine vp_callSi (W.runV (As := [.int (nI p0), .int (nI w)]) (rest := [.int (nI kd)]) ⟨hx, hb, hml, hown, hts⟩ (c_isYes l dC dI a k fn (nF ft 0 w (nvT ft tr (nyJ ft kd p0 q0))) gn gt gm fl o p0 w hp0 hlt) (cwV 2 hts gX0_join_X0_isYes rfl rfl rfl (by decide +kernel) ⟨Nat.le_of_ble_eq_true rfl, Nat.le_of_ble_eq_true rfl⟩) (nPreV hP hK (va_recv hK hP (ci := 0) (q0 := 0) rfl rfl)) rfl rfl hl.1 rfl (lv_room (Nat.le_of_ble_eq_true rfl)) dX0_join_43 ⟨Nat.zero_le _, Nat.zero_le _⟩) (fun r_43_1 er_43_1 => ?_)
    subst er_43_1
    refine lv_topi (fun x_46_2 ex_46_2 => ?_)
    obtain rfl : x_46_2 = nb (bt (ft w) p0) := by rw [ex_46_2]; rw [nF_r0]
    refine lv_aload_n hx hb dX0_join_46 rfl (lv_at hl 2 rfl) ?_
    refine lv_iload hx hb dX0_join_47 (lv_at hl 6 rfl) ?_
    refine lv_iload hx hb dX0_join_49 (lv_at hl 0 rfl) ?_
    refine vp_callSi (W.runV (As := [.int (nI q0), .int (nI w)]) (rest := [.int (nb (bt (ft w) p0)), .int (nI kd)]) ⟨hx, hb, hml, hown, hts⟩ (c_isYes l dC dI a k fn (nF ft 0 w (nvT ft tr (nyJ ft kd p0 q0))) gn gt gm fl o q0 w hq0 hlt) (cwV 2 hts gX0_join_X0_isYes rfl rfl rfl (by decide +kernel) ⟨Nat.le_of_ble_eq_true rfl, Nat.le_of_ble_eq_true rfl⟩) (nPreV hP hK (va_recv hK hP (ci := 0) (q0 := 0) rfl rfl)) rfl rfl hl.1 rfl (lv_room (Nat.le_of_ble_eq_true rfl)) dX0_join_51 ⟨Nat.zero_le _, Nat.zero_le _⟩) (fun r_51_3 er_51_3 => ?_)
    subst er_51_3
    refine lv_topi (fun x_54_4 ex_54_4 => ?_)
    obtain rfl : x_54_4 = nb (bt (ft w) q0) := by rw [ex_54_4]; rw [nF_r0]
    refine vp_callSi (W.runS (As := [.int (nI kd), .int (nb (bt (ft w) p0)), .int (nb (bt (ft w) q0))]) (rest := []) ⟨hx, hb, hml, hown, hts⟩ (c_joined l kd (bt (ft w) p0) (bt (ft w) q0) hkd) (va_cwS 3 hts gX0_join_X0_joined rfl rfl rfl (by decide +kernel) ⟨Nat.le_of_ble_eq_true rfl, Nat.le_of_ble_eq_true rfl⟩) ⟨fun _ _ _ _ q => q, fun U hU hW => ⟨rfl, trivial⟩⟩ rfl rfl hl.1 rfl (lv_room (Nat.le_of_ble_eq_true rfl)) dX0_join_54 ⟨Nat.zero_le _, Nat.zero_le _⟩) (fun r_54_5 er_54_5 => ?_)
    subst er_54_5
    refine lv_istore (lv' := [(7, .int (nb ((nyJ ft kd p0 q0) w))), (6, .int (nI w)), (5, .int (nI (nN (nyJ ft kd p0 q0) w))), (0, .ref (a 0)), (1, .int (nI tr)), (2, .int (nI kd)), (3, .int (nI p0)), (4, .int (nI q0))]) hx hb dX0_join_57 hl (by decide) rfl (fun ls hl => ?_)
    refine lv_aload_n hx hb dX0_join_59 rfl (lv_at hl 3 rfl) ?_
    refine lv_iload_n hx hb dX0_join_60 rfl (lv_at hl 4 rfl) ?_
    refine lv_iload hx hb dX0_join_61 (lv_at hl 1 rfl) ?_
    refine lv_iload hx hb dX0_join_63 (lv_at hl 0 rfl) ?_
    refine va_callv (va_runV (As := [.int (nI tr), .int (nI w), .int (nb ((nyJ ft kd p0 q0) w))]) (rest := []) ⟨hx, hb, hml, hown, hts⟩ (c_setTruth l dC dI a k fn (nF ft 0 w (nvT ft tr (nyJ ft kd p0 q0))) gn gt gm fl o hinj tr w htr hlt ((nyJ ft kd p0 q0) w)) (cwV 3 hts gX0_join_X0_setTruth rfl rfl rfl (by decide +kernel) ⟨Nat.le_of_ble_eq_true rfl, Nat.le_of_ble_eq_true rfl⟩) (nPreV hP hK (va_recv hK hP (ci := 0) (q0 := 0) rfl rfl)) rfl rfl hl.1 rfl (lv_room (Nat.le_of_ble_eq_true rfl)) dX0_join_65 ⟨Nat.zero_le _, Nat.zero_le _⟩) hS (fun _ _ h => h) (fun _ h => h) (fun _ t H locs ht hvm _ hB _ _ hS => ?_)
    have hP : va_P (dC, dI) vwCl (nW a k fn (upd (nF ft 0 w (nvT ft tr (nyJ ft kd p0 q0))) (nI w).toNatClampNeg (nS1 (nF ft 0 w (nvT ft tr (nyJ ft kd p0 q0)) w) tr ((nyJ ft kd p0 q0) w))) gn gt gm fl o) H := by rw [← ht]; exact hB.1
    have e_68_6 : upd (nF ft 0 w (nvT ft tr (nyJ ft kd p0 q0))) (nI w).toNatClampNeg (nS1 (nF ft 0 w (nvT ft tr (nyJ ft kd p0 q0)) w) tr ((nyJ ft kd p0 q0) w)) = nF ft 0 (w + 1) (nvT ft tr (nyJ ft kd p0 q0)) := nF_up0 (by omega) (by rw [nF_r0]; rfl)
    have hP : va_P (dC, dI) vwCl (nW a k fn (nF ft 0 (w + 1) (nvT ft tr (nyJ ft kd p0 q0))) gn gt gm fl o) H := by rw [← e_68_6]; exact hP
    refine lv_iload hx hb dX0_join_68 (lv_at hl 2 rfl) ?_
    refine lv_iload hx hb dX0_join_70 (lv_at hl 0 rfl) ?_
    refine lv_if_eq (tgt := 79) hx hb dX0_join_72 (by decide) (fun c2 => ?_) (fun c2 => ?_)
    · refine lv_iconst (v := nI 0) hx hb dX0_join_79 (by decide +kernel) ?_
      refine lv_iadd hx hb dX0_join_80 ?_
      refine lv_topi (fun x_81_7 ex_81_7 => ?_)
      obtain rfl : x_81_7 = nI (nN (nyJ ft kd p0 q0) (w + 1)) := by rw [ex_81_7]; rw [← nN_s, show (nyJ ft kd p0 q0) w = false from nb_f c2]; rfl
      refine lv_istore (lv' := [(5, .int (nI (nN (nyJ ft kd p0 q0) (w + 1)))), (7, .int (nb ((nyJ ft kd p0 q0) w))), (6, .int (nI w)), (0, .ref (a 0)), (1, .int (nI tr)), (2, .int (nI kd)), (3, .int (nI p0)), (4, .int (nI q0))]) hx hb dX0_join_81 hl (by decide) rfl (fun ls hl => ?_)
      refine lv_iinc (v := nI (w + 1)) (lv' := [(6, .int (nI (w + 1))), (5, .int (nI (nN (nyJ ft kd p0 q0) (w + 1)))), (7, .int (nb ((nyJ ft kd p0 q0) w))), (0, .ref (a 0)), (1, .int (nI tr)), (2, .int (nI kd)), (3, .int (nI p0)), (4, .int (nI q0))]) hx hb dX0_join_83 hl (k := 2) rfl (nI_1 w) (by decide) rfl (fun ls hl => ?_)
      refine lv_goto (tgt := 30) hx hb dX0_join_86 (by decide) ?_
      exact ih hlt _ _ _ ⟨hP, hS, (lv_sub hl [0, 1, 3, 4, 5, 6, 7] rfl)⟩
    · refine lv_iconst (v := nI 1) hx hb dX0_join_75 (by decide +kernel) ?_
      refine lv_goto (tgt := 80) hx hb dX0_join_76 (by decide) ?_
      refine lv_iadd hx hb dX0_join_80 ?_
      refine lv_topi (fun x_81_7 ex_81_7 => ?_)
      obtain rfl : x_81_7 = nI (nN (nyJ ft kd p0 q0) (w + 1)) := by rw [ex_81_7]; rw [← nN_s, show (nyJ ft kd p0 q0) w = true from nb_t c2]; rfl
      refine lv_istore (lv' := [(5, .int (nI (nN (nyJ ft kd p0 q0) (w + 1)))), (7, .int (nb ((nyJ ft kd p0 q0) w))), (6, .int (nI w)), (0, .ref (a 0)), (1, .int (nI tr)), (2, .int (nI kd)), (3, .int (nI p0)), (4, .int (nI q0))]) hx hb dX0_join_81 hl (by decide) rfl (fun ls hl => ?_)
      refine lv_iinc (v := nI (w + 1)) (lv' := [(6, .int (nI (w + 1))), (5, .int (nI (nN (nyJ ft kd p0 q0) (w + 1)))), (7, .int (nb ((nyJ ft kd p0 q0) w))), (0, .ref (a 0)), (1, .int (nI tr)), (2, .int (nI kd)), (3, .int (nI p0)), (4, .int (nI q0))]) hx hb dX0_join_83 hl (k := 2) rfl (nI_1 w) (by decide) rfl (fun ls hl => ?_)
      refine lv_goto (tgt := 30) hx hb dX0_join_86 (by decide) ?_
      exact ih hlt _ _ _ ⟨hP, hS, (lv_sub hl [0, 1, 3, 4, 5, 6, 7] rfl)⟩
