set_option maxHeartbeats 4000000 in
set_option maxRecDepth 100000 in
theorem c_choose (l : Launch) (dC : Nat → ClassId) (dI : Nat → Nat → Nat) (a : Nat → Nat) (k : Nat → ClassId) (fn ft gn gt gm : Nat → Int32) (fl : Int32) (o : Nat → Int64) (hinj : nInj a) (sl tr p0 q0 : Nat) (hsl : sl < 8) (htr : tr < 8) (hp0 : p0 < 8) (hq0 : q0 < 8) : Met l yX0_choose wsX0_choose ({ frames := 2, cells := 0, slots := 0, locals := 64 }) (va_Pc [.ref (a 0), .int (nI sl), .int (nI tr), .int (nI p0), .int (nI q0)] (nPw dC dI a k fn ft gn gt gm fl o)) (nQv (nPw dC dI a k (nF fn (1024 * sl) 1024 (nvH fn ft tr p0 q0)) ft gn gt gm fl o) a) 0 0 (nA0 a) := by
  refine Met.ofW (cc := cX0_choose) (maxL := 7) (ret := none) (by decide) rfl ?_
  intro p e s m args below meth c s₁ B hml hv
  obtain ⟨rfl, hP, hK⟩ := hv
  have hx := B.exec
  have hb := B.bytes
  have hr := B.returns
  have hts := atoms_spec (ws := wsX0_choose) B.pre
  have hown : s.vm.findClass RX0 = some m.cls := findClass_of_methodNamed B.named
  have hlocks := B.notSynchronized
  have hS : va_S (nA0 a) s.heap s.heap [] := va_S.rf
  have hl := lv_entry ([.ref (a 0), .int (nI sl), .int (nI tr), .int (nI p0), .int (nI q0)]) (n := 7) (Nat.le_of_ble_eq_true rfl)
  rw [lg_entry_eq]
  generalize (lg_sl ([.ref (a 0), .int (nI sl), .int (nI tr), .int (nI p0), .int (nI q0)]) ++ List.replicate (7 - (lg_sl ([.ref (a 0), .int (nI sl), .int (nI tr), .int (nI p0), .int (nI q0)])).length) Slot.unset).toArray = ls at hl ⊢
  have hl : lv_has ls 7 [(0, .ref (a 0)), (1, .int (nI sl)), (2, .int (nI tr)), (3, .int (nI p0)), (4, .int (nI q0))] := hl
  refine lv_iload_n hx hb dX0_choose_0 rfl (lv_at hl 1 rfl) ?_
  refine lv_bipush (v := nI 7) hx hb dX0_choose_1 (by decide +kernel) ?_
  refine va_csv (W.runS (As := [.int (nI sl), .int (nI 7)]) (rest := []) ⟨hx, hb, hml, hown, hts⟩ (c_needUpTo l sl 7 (by omega) (by omega)) (va_cwS 2 hts gX0_choose_X0_needUpTo rfl rfl rfl (by decide +kernel) ⟨Nat.le_of_ble_eq_true rfl, Nat.le_of_ble_eq_true rfl⟩) ⟨fun _ _ _ _ q => q, fun U hU hW => ⟨rfl, trivial⟩⟩ rfl rfl hl.1 rfl (lv_room (Nat.le_of_ble_eq_true rfl)) dX0_choose_3 ⟨Nat.zero_le _, Nat.zero_le _⟩) (fun _ => ?_)
  refine lv_iload_n hx hb dX0_choose_6 rfl (lv_at hl 2 rfl) ?_
  refine lv_bipush (v := nI 7) hx hb dX0_choose_7 (by decide +kernel) ?_
  refine va_csv (W.runS (As := [.int (nI tr), .int (nI 7)]) (rest := []) ⟨hx, hb, hml, hown, hts⟩ (c_needUpTo l tr 7 (by omega) (by omega)) (va_cwS 2 hts gX0_choose_X0_needUpTo rfl rfl rfl (by decide +kernel) ⟨Nat.le_of_ble_eq_true rfl, Nat.le_of_ble_eq_true rfl⟩) ⟨fun _ _ _ _ q => q, fun U hU hW => ⟨rfl, trivial⟩⟩ rfl rfl hl.1 rfl (lv_room (Nat.le_of_ble_eq_true rfl)) dX0_choose_9 ⟨Nat.zero_le _, Nat.zero_le _⟩) (fun _ => ?_)
  refine lv_iload_n hx hb dX0_choose_12 rfl (lv_at hl 3 rfl) ?_
  refine lv_bipush (v := nI 7) hx hb dX0_choose_13 (by decide +kernel) ?_
  refine va_csv (W.runS (As := [.int (nI p0), .int (nI 7)]) (rest := []) ⟨hx, hb, hml, hown, hts⟩ (c_needUpTo l p0 7 (by omega) (by omega)) (va_cwS 2 hts gX0_choose_X0_needUpTo rfl rfl rfl (by decide +kernel) ⟨Nat.le_of_ble_eq_true rfl, Nat.le_of_ble_eq_true rfl⟩) ⟨fun _ _ _ _ q => q, fun U hU hW => ⟨rfl, trivial⟩⟩ rfl rfl hl.1 rfl (lv_room (Nat.le_of_ble_eq_true rfl)) dX0_choose_15 ⟨Nat.zero_le _, Nat.zero_le _⟩) (fun _ => ?_)
  refine lv_iload hx hb dX0_choose_18 (lv_at hl 4 rfl) ?_
  refine lv_bipush (v := nI 7) hx hb dX0_choose_20 (by decide +kernel) ?_
  refine va_csv (W.runS (As := [.int (nI q0), .int (nI 7)]) (rest := []) ⟨hx, hb, hml, hown, hts⟩ (c_needUpTo l q0 7 (by omega) (by omega)) (va_cwS 2 hts gX0_choose_X0_needUpTo rfl rfl rfl (by decide +kernel) ⟨Nat.le_of_ble_eq_true rfl, Nat.le_of_ble_eq_true rfl⟩) ⟨fun _ _ _ _ q => q, fun U hU hW => ⟨rfl, trivial⟩⟩ rfl rfl hl.1 rfl (lv_room (Nat.le_of_ble_eq_true rfl)) dX0_choose_22 ⟨Nat.zero_le _, Nat.zero_le _⟩) (fun _ => ?_)
  refine lv_iconst (v := nI 0) hx hb dX0_choose_25 (by decide +kernel) ?_
  refine lv_istore (lv' := [(5, .int (nI 0)), (0, .ref (a 0)), (1, .int (nI sl)), (2, .int (nI tr)), (3, .int (nI p0)), (4, .int (nI q0))]) hx hb dX0_choose_26 hl (by decide) rfl (fun ls hl => ?_)
  refine nc_loop 1024 (fun w H locs ls => va_P (dC, dI) vwCl (nW a k (nF fn (1024 * sl) w (nvH fn ft tr p0 q0)) ft gn gt gm fl o) H ∧ va_S (nA0 a) s.heap H locs ∧ lv_has ls 7 [(5, .int (nI w)), (0, .ref (a 0)), (1, .int (nI sl)), (2, .int (nI tr)), (3, .int (nI p0)), (4, .int (nI q0))]) ⟨(by rw [nF_0]; exact hP), hS, (lv_sub hl [0, 1, 2, 3, 4, 5] rfl)⟩ ?_
  intro w H locs ls hw hI ih
  obtain ⟨hP, hS, hl⟩ := hI
  refine lv_iload hx hb dX0_choose_28 (lv_at hl 0 rfl) ?_
  refine lv_sipush (v := nI 1024) hx hb dX0_choose_30 (by decide +kernel) ?_
  refine lv_icmp_ge (tgt := 83) hx hb dX0_choose_33 (by decide) (fun c1 => ?_) (fun c1 => ?_)
  · obtain rfl : w = 1024 := nHi (by decide) hw c1
    exact W.vret hx hb hr (fun t ht hW => ⟨⟨(), rfl, trivial, by rw [ht]; exact hP, va_K.moved hW.alike hK⟩, hS.F ht⟩) hS.2.2 dX0_choose_83
  · have hlt : w < 1024 := nLo (by decide) hw c1
    refine lv_aload_n hx hb dX0_choose_36 rfl (lv_at hl 1 rfl) ?_
    refine lv_iload_n hx hb dX0_choose_37 rfl (lv_at hl 3 rfl) ?_
    refine lv_iload hx hb dX0_choose_38 (lv_at hl 0 rfl) ?_
    refine vp_callSi (W.runV (As := [.int (nI tr), .int (nI w)]) (rest := []) ⟨hx, hb, hml, hown, hts⟩ (c_isYes l dC dI a k (nF fn (1024 * sl) w (nvH fn ft tr p0 q0)) ft gn gt gm fl o tr w htr hlt) (cwV 2 hts gX0_choose_X0_isYes rfl rfl rfl (by decide +kernel) ⟨Nat.le_of_ble_eq_true rfl, Nat.le_of_ble_eq_true rfl⟩) (nPreV hP hK (va_recv hK hP (ci := 0) (q0 := 0) rfl rfl)) rfl rfl hl.1 rfl (lv_room (Nat.le_of_ble_eq_true rfl)) dX0_choose_40 ⟨Nat.zero_le _, Nat.zero_le _⟩) (fun r_40_1 er_40_1 => ?_)
    subst er_40_1
    refine lv_if_eq (tgt := 50) hx hb dX0_choose_43 (by decide) (fun c2 => ?_) (fun c2 => ?_)
    · have hbt : bt (ft w) tr = false := nb_f c2
      refine lv_iload hx hb dX0_choose_50 (lv_at hl 5 rfl) ?_
      refine lv_istore (lv' := [(6, .int (nI q0)), (5, .int (nI w)), (0, .ref (a 0)), (1, .int (nI sl)), (2, .int (nI tr)), (3, .int (nI p0)), (4, .int (nI q0))]) hx hb dX0_choose_52 hl (by decide) rfl (fun ls hl => ?_)
      refine lv_aload_n hx hb dX0_choose_54 rfl (lv_at hl 2 rfl) ?_
      refine va_get (D := (dC, dI)) (ci := 0) (v := .ref (a 1)) (C := RX0) (T := TX0) (N := 2) hx hb hts inX0_choose hown hK hP 0 rfl rfl 0 (by decide) (hts (.fieldLink RX0 9 "NumberCircuits" "numbers" "[S") (by decide +kernel)) (fun _ h9 => h9) rfl dX0_choose_55 ?_
      refine lv_iload_n hx hb dX0_choose_58 rfl (lv_at hl 3 rfl) ?_
      refine lv_iload hx hb dX0_choose_59 (lv_at hl 1 rfl) ?_
      refine vp_callSi (W.runS (As := [.int (nI sl), .int (nI w)]) (rest := [.ref (a 1)]) ⟨hx, hb, hml, hown, hts⟩ (c_place l sl w) (va_cwS 2 hts gX0_choose_X0_place rfl rfl rfl (by decide +kernel) ⟨Nat.le_of_ble_eq_true rfl, Nat.le_of_ble_eq_true rfl⟩) ⟨fun _ _ _ _ q => q, fun U hU hW => ⟨rfl, trivial⟩⟩ rfl rfl hl.1 rfl (lv_room (Nat.le_of_ble_eq_true rfl)) dX0_choose_61 ⟨Nat.zero_le _, Nat.zero_le _⟩) (fun r_61_2 er_61_2 => ?_)
      subst er_61_2
      refine lv_aload_n hx hb dX0_choose_64 rfl (lv_at hl 2 rfl) ?_
      refine va_get (D := (dC, dI)) (ci := 0) (v := .ref (a 1)) (C := RX0) (T := TX0) (N := 2) hx hb hts inX0_choose hown hK hP 0 rfl rfl 0 (by decide) (hts (.fieldLink RX0 9 "NumberCircuits" "numbers" "[S") (by decide +kernel)) (fun _ h9 => h9) rfl dX0_choose_65 ?_
      refine lv_iload hx hb dX0_choose_68 (lv_at hl 0 rfl) ?_
      refine lv_iload hx hb dX0_choose_70 (lv_at hl 1 rfl) ?_
      refine vp_callSi (W.runS (As := [.int (nI q0), .int (nI w)]) (rest := [.ref (a 1), .int (nI (1024 * sl + w)), .ref (a 1)]) ⟨hx, hb, hml, hown, hts⟩ (c_place l q0 w) (va_cwS 2 hts gX0_choose_X0_place rfl rfl rfl (by decide +kernel) ⟨Nat.le_of_ble_eq_true rfl, Nat.le_of_ble_eq_true rfl⟩) ⟨fun _ _ _ _ q => q, fun U hU hW => ⟨rfl, trivial⟩⟩ rfl rfl hl.1 rfl (lv_room (Nat.le_of_ble_eq_true rfl)) dX0_choose_72 ⟨Nat.zero_le _, Nat.zero_le _⟩) (fun r_72_3 er_72_3 => ?_)
      subst er_72_3
      refine va_sald (i := nI (1024 * q0 + w)) hx hb hK hP 1 0 rfl rfl (vp_in_nI (by omega) (by decide)) dX0_choose_75 ?_
      refine lv_topi (fun x_76_4 ex_76_4 => ?_)
      obtain rfl : x_76_4 = fn (1024 * q0 + w) := by rw [ex_76_4]; rw [nI_clamp (show 1024 * q0 + w < 2 ^ 31 by omega)]; exact nF_r hlt
      refine va_sast (i := nI (1024 * sl + w)) (x := fn (1024 * q0 + w)) hx hb hK hP (nDA hinj) hS 1 0 rfl rfl (vp_in_nI (by omega) (by decide)) dX0_choose_76 (fun H locs hP _ hS => ?_)
      have e_76_5 : upd (nF fn (1024 * sl) w (nvH fn ft tr p0 q0)) (nI (1024 * sl + w)).toNatClampNeg (vp_nar .short (fn (1024 * q0 + w))) = nF fn (1024 * sl) (w + 1) (nvH fn ft tr p0 q0) := nF_up (by omega) (by unfold nvH; rw [hbt]; rfl)
      have hP : va_P (dC, dI) vwCl (nW a k (nF fn (1024 * sl) (w + 1) (nvH fn ft tr p0 q0)) ft gn gt gm fl o) H := by rw [← e_76_5]; exact hP
      refine lv_iinc (v := nI (w + 1)) (lv' := [(5, .int (nI (w + 1))), (6, .int (nI q0)), (0, .ref (a 0)), (1, .int (nI sl)), (2, .int (nI tr)), (3, .int (nI p0)), (4, .int (nI q0))]) hx hb dX0_choose_77 hl (k := 1) rfl (nI_1 w) (by decide) rfl (fun ls hl => ?_)
      refine lv_goto (tgt := 28) hx hb dX0_choose_80 (by decide) ?_
      exact ih hlt _ _ _ ⟨hP, hS, (lv_sub hl [0, 2, 3, 4, 5, 6] rfl)⟩
    · have hbt : bt (ft w) tr = true := nb_t c2
      refine lv_iload_n hx hb dX0_choose_46 rfl (lv_at hl 4 rfl) ?_
      refine lv_goto (tgt := 52) hx hb dX0_choose_47 (by decide) ?_
      refine lv_istore (lv' := [(6, .int (nI p0)), (5, .int (nI w)), (0, .ref (a 0)), (1, .int (nI sl)), (2, .int (nI tr)), (3, .int (nI p0)), (4, .int (nI q0))]) hx hb dX0_choose_52 hl (by decide) rfl (fun ls hl => ?_)
      refine lv_aload_n hx hb dX0_choose_54 rfl (lv_at hl 2 rfl) ?_
      refine va_get (D := (dC, dI)) (ci := 0) (v := .ref (a 1)) (C := RX0) (T := TX0) (N := 2) hx hb hts inX0_choose hown hK hP 0 rfl rfl 0 (by decide) (hts (.fieldLink RX0 9 "NumberCircuits" "numbers" "[S") (by decide +kernel)) (fun _ h9 => h9) rfl dX0_choose_55 ?_
      refine lv_iload_n hx hb dX0_choose_58 rfl (lv_at hl 3 rfl) ?_
      refine lv_iload hx hb dX0_choose_59 (lv_at hl 1 rfl) ?_
      refine vp_callSi (W.runS (As := [.int (nI sl), .int (nI w)]) (rest := [.ref (a 1)]) ⟨hx, hb, hml, hown, hts⟩ (c_place l sl w) (va_cwS 2 hts gX0_choose_X0_place rfl rfl rfl (by decide +kernel) ⟨Nat.le_of_ble_eq_true rfl, Nat.le_of_ble_eq_true rfl⟩) ⟨fun _ _ _ _ q => q, fun U hU hW => ⟨rfl, trivial⟩⟩ rfl rfl hl.1 rfl (lv_room (Nat.le_of_ble_eq_true rfl)) dX0_choose_61 ⟨Nat.zero_le _, Nat.zero_le _⟩) (fun r_61_2 er_61_2 => ?_)
      subst er_61_2
      refine lv_aload_n hx hb dX0_choose_64 rfl (lv_at hl 2 rfl) ?_
      refine va_get (D := (dC, dI)) (ci := 0) (v := .ref (a 1)) (C := RX0) (T := TX0) (N := 2) hx hb hts inX0_choose hown hK hP 0 rfl rfl 0 (by decide) (hts (.fieldLink RX0 9 "NumberCircuits" "numbers" "[S") (by decide +kernel)) (fun _ h9 => h9) rfl dX0_choose_65 ?_
      refine lv_iload hx hb dX0_choose_68 (lv_at hl 0 rfl) ?_
      refine lv_iload hx hb dX0_choose_70 (lv_at hl 1 rfl) ?_
      refine vp_callSi (W.runS (As := [.int (nI p0), .int (nI w)]) (rest := [.ref (a 1), .int (nI (1024 * sl + w)), .ref (a 1)]) ⟨hx, hb, hml, hown, hts⟩ (c_place l p0 w) (va_cwS 2 hts gX0_choose_X0_place rfl rfl rfl (by decide +kernel) ⟨Nat.le_of_ble_eq_true rfl, Nat.le_of_ble_eq_true rfl⟩) ⟨fun _ _ _ _ q => q, fun U hU hW => ⟨rfl, trivial⟩⟩ rfl rfl hl.1 rfl (lv_room (Nat.le_of_ble_eq_true rfl)) dX0_choose_72 ⟨Nat.zero_le _, Nat.zero_le _⟩) (fun r_72_3 er_72_3 => ?_)
      subst er_72_3
      refine va_sald (i := nI (1024 * p0 + w)) hx hb hK hP 1 0 rfl rfl (vp_in_nI (by omega) (by decide)) dX0_choose_75 ?_
      refine lv_topi (fun x_76_4 ex_76_4 => ?_)
      obtain rfl : x_76_4 = fn (1024 * p0 + w) := by rw [ex_76_4]; rw [nI_clamp (show 1024 * p0 + w < 2 ^ 31 by omega)]; exact nF_r hlt
      refine va_sast (i := nI (1024 * sl + w)) (x := fn (1024 * p0 + w)) hx hb hK hP (nDA hinj) hS 1 0 rfl rfl (vp_in_nI (by omega) (by decide)) dX0_choose_76 (fun H locs hP _ hS => ?_)
      have e_76_5 : upd (nF fn (1024 * sl) w (nvH fn ft tr p0 q0)) (nI (1024 * sl + w)).toNatClampNeg (vp_nar .short (fn (1024 * p0 + w))) = nF fn (1024 * sl) (w + 1) (nvH fn ft tr p0 q0) := nF_up (by omega) (by unfold nvH; rw [hbt]; rfl)
      have hP : va_P (dC, dI) vwCl (nW a k (nF fn (1024 * sl) (w + 1) (nvH fn ft tr p0 q0)) ft gn gt gm fl o) H := by rw [← e_76_5]; exact hP
      refine lv_iinc (v := nI (w + 1)) (lv' := [(5, .int (nI (w + 1))), (6, .int (nI p0)), (0, .ref (a 0)), (1, .int (nI sl)), (2, .int (nI tr)), (3, .int (nI p0)), (4, .int (nI q0))]) hx hb dX0_choose_77 hl (k := 1) rfl (nI_1 w) (by decide) rfl (fun ls hl => ?_)
      refine lv_goto (tgt := 28) hx hb dX0_choose_80 (by decide) ?_
      exact ih hlt _ _ _ ⟨hP, hS, (lv_sub hl [0, 2, 3, 4, 5, 6] rfl)⟩
set_option maxHeartbeats 4000000 in
set_option maxRecDepth 100000 in
theorem c_value (l : Launch) (dC : Nat → ClassId) (dI : Nat → Nat → Nat) (a : Nat → Nat) (k : Nat → ClassId) (fn ft gn gt gm : Nat → Int32) (fl : Int32) (o : Nat → Int64) (sl wy : Nat) (hsl : sl < 8) (hwy : wy < 1024) : Met l yX0_value wsX0_value ({ frames := 2, cells := 0, slots := 0, locals := 64 }) (va_Pc [.ref (a 0), .int (nI sl), .int (nI wy)] (nPw dC dI a k fn ft gn gt gm fl o)) (vp_Si (fun r => r = fn (1024 * sl + wy))) 0 0 (fun _ => False) := by
  refine Met.ofW (cc := cX0_value) (maxL := 3) (ret := (some .int)) (by decide) rfl ?_
  intro p e s m args below meth c s₁ B hml hv
  obtain ⟨rfl, hP, hK⟩ := hv
  have hx := B.exec
  have hb := B.bytes
  have hr := B.returns
  have hts := atoms_spec (ws := wsX0_value) B.pre
  have hown : s.vm.findClass RX0 = some m.cls := findClass_of_methodNamed B.named
  have hlocks := B.notSynchronized
  have hl := lv_entry ([.ref (a 0), .int (nI sl), .int (nI wy)]) (n := 3) (Nat.le_of_ble_eq_true rfl)
  rw [lg_entry_eq]
  generalize (lg_sl ([.ref (a 0), .int (nI sl), .int (nI wy)]) ++ List.replicate (3 - (lg_sl ([.ref (a 0), .int (nI sl), .int (nI wy)])).length) Slot.unset).toArray = ls at hl ⊢
  have hl : lv_has ls 3 [(0, .ref (a 0)), (1, .int (nI sl)), (2, .int (nI wy))] := hl
  refine lv_iload_n hx hb dX0_value_0 rfl (lv_at hl 1 rfl) ?_
  refine lv_bipush (v := nI 7) hx hb dX0_value_1 (by decide +kernel) ?_
  refine va_csv (W.runS (As := [.int (nI sl), .int (nI 7)]) (rest := []) ⟨hx, hb, hml, hown, hts⟩ (c_needUpTo l sl 7 (by omega) (by omega)) (va_cwS 2 hts gX0_value_X0_needUpTo rfl rfl rfl (by decide +kernel) ⟨Nat.le_of_ble_eq_true rfl, Nat.le_of_ble_eq_true rfl⟩) ⟨fun _ _ _ _ q => q, fun U hU hW => ⟨rfl, trivial⟩⟩ rfl rfl hl.1 rfl (lv_room (Nat.le_of_ble_eq_true rfl)) dX0_value_3 ⟨Nat.zero_le _, Nat.zero_le _⟩) (fun _ => ?_)
  refine lv_iload_n hx hb dX0_value_6 rfl (lv_at hl 2 rfl) ?_
  refine lv_sipush (v := nI 1023) hx hb dX0_value_7 (by decide +kernel) ?_
  refine va_csv (W.runS (As := [.int (nI wy), .int (nI 1023)]) (rest := []) ⟨hx, hb, hml, hown, hts⟩ (c_needUpTo l wy 1023 (by omega) (by omega)) (va_cwS 2 hts gX0_value_X0_needUpTo rfl rfl rfl (by decide +kernel) ⟨Nat.le_of_ble_eq_true rfl, Nat.le_of_ble_eq_true rfl⟩) ⟨fun _ _ _ _ q => q, fun U hU hW => ⟨rfl, trivial⟩⟩ rfl rfl hl.1 rfl (lv_room (Nat.le_of_ble_eq_true rfl)) dX0_value_10 ⟨Nat.zero_le _, Nat.zero_le _⟩) (fun _ => ?_)
  refine lv_aload_n hx hb dX0_value_13 rfl (lv_at hl 0 rfl) ?_
  refine va_get (D := (dC, dI)) (ci := 0) (v := .ref (a 1)) (C := RX0) (T := TX0) (N := 2) hx hb hts inX0_value hown hK hP 0 rfl rfl 0 (by decide) (hts (.fieldLink RX0 9 "NumberCircuits" "numbers" "[S") (by decide +kernel)) (fun _ h9 => h9) rfl dX0_value_14 ?_
  refine lv_iload_n hx hb dX0_value_17 rfl (lv_at hl 1 rfl) ?_
  refine lv_iload_n hx hb dX0_value_18 rfl (lv_at hl 2 rfl) ?_
  refine vp_callSi (W.runS (As := [.int (nI sl), .int (nI wy)]) (rest := [.ref (a 1)]) ⟨hx, hb, hml, hown, hts⟩ (c_place l sl wy) (va_cwS 2 hts gX0_value_X0_place rfl rfl rfl (by decide +kernel) ⟨Nat.le_of_ble_eq_true rfl, Nat.le_of_ble_eq_true rfl⟩) ⟨fun _ _ _ _ q => q, fun U hU hW => ⟨rfl, trivial⟩⟩ rfl rfl hl.1 rfl (lv_room (Nat.le_of_ble_eq_true rfl)) dX0_value_19 ⟨Nat.zero_le _, Nat.zero_le _⟩) (fun r_19_1 er_19_1 => ?_)
  subst er_19_1
  refine va_sald (i := nI (1024 * sl + wy)) hx hb hK hP 1 0 rfl rfl (vp_in_nI (by omega) (by decide)) dX0_value_22 ?_
  refine lv_topi (fun x_23_2 ex_23_2 => ?_)
  obtain rfl : x_23_2 = fn (1024 * sl + wy) := by rw [ex_23_2]; rw [nI_clamp (show 1024 * sl + wy < 2 ^ 31 by omega)]
  exact W.iret hx hb hr (fun t ht hW => ⟨_, rfl, rfl, ht⟩) (fun _ h => absurd h List.not_mem_nil) dX0_value_23
set_option maxHeartbeats 4000000 in
set_option maxRecDepth 100000 in
theorem c_way (l : Launch) (dC : Nat → ClassId) (dI : Nat → Nat → Nat) (a : Nat → Nat) (k : Nat → ClassId) (fn ft gn gt gm : Nat → Int32) (fl : Int32) (o : Nat → Int64) (tr w0 : Nat) (htr : tr < 8) (hw0 : w0 < 1024) (hy0 : bt (ft w0) tr = true) (hn0 : ∀ j, j < w0 → bt (ft j) tr = false) : Met l yX0_way wsX0_way ({ frames := 2, cells := 0, slots := 0, locals := 64 }) (va_Pc [.ref (a 0), .int (nI tr)] (nPw dC dI a k fn ft gn gt gm fl o)) (vp_Si (fun r => r = nI w0)) 0 0 (fun _ => False) := by
  refine Met.ofW (cc := cX0_way) (maxL := 3) (ret := (some .int)) (by decide) rfl ?_
  intro p e s m args below meth c s₁ B hml hv
  obtain ⟨rfl, hP, hK⟩ := hv
  have hx := B.exec
  have hb := B.bytes
  have hr := B.returns
  have hts := atoms_spec (ws := wsX0_way) B.pre
  have hown : s.vm.findClass RX0 = some m.cls := findClass_of_methodNamed B.named
  have hlocks := B.notSynchronized
  have hl := lv_entry ([.ref (a 0), .int (nI tr)]) (n := 3) (Nat.le_of_ble_eq_true rfl)
  rw [lg_entry_eq]
  generalize (lg_sl ([.ref (a 0), .int (nI tr)]) ++ List.replicate (3 - (lg_sl ([.ref (a 0), .int (nI tr)])).length) Slot.unset).toArray = ls at hl ⊢
  have hl : lv_has ls 3 [(0, .ref (a 0)), (1, .int (nI tr))] := hl
  refine lv_iload_n hx hb dX0_way_0 rfl (lv_at hl 1 rfl) ?_
  refine lv_bipush (v := nI 7) hx hb dX0_way_1 (by decide +kernel) ?_
  refine va_csv (W.runS (As := [.int (nI tr), .int (nI 7)]) (rest := []) ⟨hx, hb, hml, hown, hts⟩ (c_needUpTo l tr 7 (by omega) (by omega)) (va_cwS 2 hts gX0_way_X0_needUpTo rfl rfl rfl (by decide +kernel) ⟨Nat.le_of_ble_eq_true rfl, Nat.le_of_ble_eq_true rfl⟩) ⟨fun _ _ _ _ q => q, fun U hU hW => ⟨rfl, trivial⟩⟩ rfl rfl hl.1 rfl (lv_room (Nat.le_of_ble_eq_true rfl)) dX0_way_3 ⟨Nat.zero_le _, Nat.zero_le _⟩) (fun _ => ?_)
  refine lv_iconst (v := nI 0) hx hb dX0_way_6 (by decide +kernel) ?_
  refine lv_istore_n (lv' := [(2, .int (nI 0)), (0, .ref (a 0)), (1, .int (nI tr))]) hx hb dX0_way_7 rfl hl (by decide) rfl (fun ls hl => ?_)
  refine nc_loop 1024 (fun w H locs ls => H = s.heap ∧ locs = [] ∧ (w ≤ w0) ∧ lv_has ls 3 [(2, .int (nI w)), (0, .ref (a 0)), (1, .int (nI tr))]) ⟨rfl, rfl, Nat.zero_le _, (lv_sub hl [0, 1, 2] rfl)⟩ ?_
  intro w H locs ls hw hI ih
  obtain ⟨rfl, rfl, hwl, hl⟩ := hI
  refine lv_iload_n hx hb dX0_way_8 rfl (lv_at hl 0 rfl) ?_
  refine lv_sipush (v := nI 1024) hx hb dX0_way_9 (by decide +kernel) ?_
  refine lv_icmp_ge (tgt := 32) hx hb dX0_way_12 (by decide) (fun c1 => ?_) (fun c1 => ?_)
  · exact absurd (nHi (by decide) hw c1) (by omega)
  · have hlt : w < 1024 := nLo (by decide) hw c1
    refine lv_aload_n hx hb dX0_way_15 rfl (lv_at hl 1 rfl) ?_
    refine lv_iload_n hx hb dX0_way_16 rfl (lv_at hl 2 rfl) ?_
    refine lv_iload_n hx hb dX0_way_17 rfl (lv_at hl 0 rfl) ?_
    refine vp_callSi (W.runV (As := [.int (nI tr), .int (nI w)]) (rest := []) ⟨hx, hb, hml, hown, hts⟩ (c_isYes l dC dI a k fn ft gn gt gm fl o tr w htr hlt) (cwV 2 hts gX0_way_X0_isYes rfl rfl rfl (by decide +kernel) ⟨Nat.le_of_ble_eq_true rfl, Nat.le_of_ble_eq_true rfl⟩) (nPreV hP hK (va_recv hK hP (ci := 0) (q0 := 0) rfl rfl)) rfl rfl hl.1 rfl (lv_room (Nat.le_of_ble_eq_true rfl)) dX0_way_18 ⟨Nat.zero_le _, Nat.zero_le _⟩) (fun r_18_1 er_18_1 => ?_)
    subst er_18_1
    refine lv_if_eq (tgt := 26) hx hb dX0_way_21 (by decide) (fun c2 => ?_) (fun c2 => ?_)
    · have hne : w ≠ w0 := fun h => by rw [h, hy0] at c2; exact absurd c2 (by decide +kernel)
      refine lv_iinc (v := nI (w + 1)) (lv' := [(2, .int (nI (w + 1))), (0, .ref (a 0)), (1, .int (nI tr))]) hx hb dX0_way_26 hl (k := 0) rfl (nI_1 w) (by decide) rfl (fun ls hl => ?_)
      refine lv_goto (tgt := 8) hx hb dX0_way_29 (by decide) ?_
      exact ih hlt _ _ _ ⟨rfl, rfl, (by omega), (lv_sub hl [0, 1, 2] rfl)⟩
    · obtain rfl : w = w0 := by
        rcases Nat.lt_or_ge w w0 with q | q
        · rw [hn0 w q] at c2; exact absurd (by decide +kernel) c2
        · omega
      refine lv_iload_n hx hb dX0_way_24 rfl (lv_at hl 0 rfl) ?_
      exact W.iret hx hb hr (fun t ht hW => ⟨_, rfl, rfl, ht⟩) (fun _ h => absurd h List.not_mem_nil) dX0_way_25
set_option maxHeartbeats 4000000 in
set_option maxRecDepth 100000 in
theorem c_same (l : Launch) (dC : Nat → ClassId) (dI : Nat → Nat → Nat) (a : Nat → Nat) (k : Nat → ClassId) (fn ft gn gt gm : Nat → Int32) (fl : Int32) (o : Nat → Int64) (p0 q0 : Nat) (hp0 : p0 < 8) (hq0 : q0 < 8) : Met l yX0_same wsX0_same ({ frames := 2, cells := 0, slots := 0, locals := 64 }) (va_Pc [.ref (a 0), .int (nI p0), .int (nI q0)] (nPw dC dI a k fn ft gn gt gm fl o)) (vp_Si (fun r => r = nb (nAll (nqS fn p0 q0) 1024))) 0 0 (fun _ => False) := by
  refine Met.ofW (cc := cX0_same) (maxL := 4) (ret := (some .boolean)) (by decide) rfl ?_
  intro p e s m args below meth c s₁ B hml hv
  obtain ⟨rfl, hP, hK⟩ := hv
  have hx := B.exec
  have hb := B.bytes
  have hr := B.returns
  have hts := atoms_spec (ws := wsX0_same) B.pre
  have hown : s.vm.findClass RX0 = some m.cls := findClass_of_methodNamed B.named
  have hlocks := B.notSynchronized
  have hl := lv_entry ([.ref (a 0), .int (nI p0), .int (nI q0)]) (n := 4) (Nat.le_of_ble_eq_true rfl)
  rw [lg_entry_eq]
  generalize (lg_sl ([.ref (a 0), .int (nI p0), .int (nI q0)]) ++ List.replicate (4 - (lg_sl ([.ref (a 0), .int (nI p0), .int (nI q0)])).length) Slot.unset).toArray = ls at hl ⊢
  have hl : lv_has ls 4 [(0, .ref (a 0)), (1, .int (nI p0)), (2, .int (nI q0))] := hl
  refine lv_iload_n hx hb dX0_same_0 rfl (lv_at hl 1 rfl) ?_
  refine lv_bipush (v := nI 7) hx hb dX0_same_1 (by decide +kernel) ?_
  refine va_csv (W.runS (As := [.int (nI p0), .int (nI 7)]) (rest := []) ⟨hx, hb, hml, hown, hts⟩ (c_needUpTo l p0 7 (by omega) (by omega)) (va_cwS 2 hts gX0_same_X0_needUpTo rfl rfl rfl (by decide +kernel) ⟨Nat.le_of_ble_eq_true rfl, Nat.le_of_ble_eq_true rfl⟩) ⟨fun _ _ _ _ q => q, fun U hU hW => ⟨rfl, trivial⟩⟩ rfl rfl hl.1 rfl (lv_room (Nat.le_of_ble_eq_true rfl)) dX0_same_3 ⟨Nat.zero_le _, Nat.zero_le _⟩) (fun _ => ?_)
  refine lv_iload_n hx hb dX0_same_6 rfl (lv_at hl 2 rfl) ?_
  refine lv_bipush (v := nI 7) hx hb dX0_same_7 (by decide +kernel) ?_
  refine va_csv (W.runS (As := [.int (nI q0), .int (nI 7)]) (rest := []) ⟨hx, hb, hml, hown, hts⟩ (c_needUpTo l q0 7 (by omega) (by omega)) (va_cwS 2 hts gX0_same_X0_needUpTo rfl rfl rfl (by decide +kernel) ⟨Nat.le_of_ble_eq_true rfl, Nat.le_of_ble_eq_true rfl⟩) ⟨fun _ _ _ _ q => q, fun U hU hW => ⟨rfl, trivial⟩⟩ rfl rfl hl.1 rfl (lv_room (Nat.le_of_ble_eq_true rfl)) dX0_same_9 ⟨Nat.zero_le _, Nat.zero_le _⟩) (fun _ => ?_)
  refine lv_iconst (v := nI 0) hx hb dX0_same_12 (by decide +kernel) ?_
  refine lv_istore_n (lv' := [(3, .int (nI 0)), (0, .ref (a 0)), (1, .int (nI p0)), (2, .int (nI q0))]) hx hb dX0_same_13 rfl hl (by decide) rfl (fun ls hl => ?_)
  refine nc_loop 1024 (fun w H locs ls => H = s.heap ∧ locs = [] ∧ (∀ j, j < w → (nqS fn p0 q0) j = true) ∧ lv_has ls 4 [(3, .int (nI w)), (0, .ref (a 0)), (1, .int (nI p0)), (2, .int (nI q0))]) ⟨rfl, rfl, (fun j hj => absurd hj (by omega)), (lv_sub hl [0, 1, 2, 3] rfl)⟩ ?_
  intro w H locs ls hw hI ih
  obtain ⟨rfl, rfl, hq, hl⟩ := hI
  refine lv_iload_n hx hb dX0_same_14 rfl (lv_at hl 0 rfl) ?_
  refine lv_sipush (v := nI 1024) hx hb dX0_same_15 (by decide +kernel) ?_
  refine lv_icmp_ge (tgt := 52) hx hb dX0_same_18 (by decide) (fun c1 => ?_) (fun c1 => ?_)
  · obtain rfl : w = 1024 := nHi (by decide) hw c1
    refine lv_iconst (v := nI 1) hx hb dX0_same_52 (by decide +kernel) ?_
    exact W.zret hx hb hr (by decide +kernel) (fun t ht hW => ⟨_, rfl, (by rw [nAll_t 1024 hq]; rfl), ht⟩) (fun _ h => absurd h List.not_mem_nil) dX0_same_53
  · have hlt : w < 1024 := nLo (by decide) hw c1
    refine lv_aload_n hx hb dX0_same_21 rfl (lv_at hl 1 rfl) ?_
    refine va_get (D := (dC, dI)) (ci := 0) (v := .ref (a 1)) (C := RX0) (T := TX0) (N := 2) hx hb hts inX0_same hown hK hP 0 rfl rfl 0 (by decide) (hts (.fieldLink RX0 9 "NumberCircuits" "numbers" "[S") (by decide +kernel)) (fun _ h9 => h9) rfl dX0_same_22 ?_
    refine lv_iload_n hx hb dX0_same_25 rfl (lv_at hl 2 rfl) ?_
    refine lv_iload_n hx hb dX0_same_26 rfl (lv_at hl 0 rfl) ?_
    refine vp_callSi (W.runS (As := [.int (nI p0), .int (nI w)]) (rest := [.ref (a 1)]) ⟨hx, hb, hml, hown, hts⟩ (c_place l p0 w) (va_cwS 2 hts gX0_same_X0_place rfl rfl rfl (by decide +kernel) ⟨Nat.le_of_ble_eq_true rfl, Nat.le_of_ble_eq_true rfl⟩) ⟨fun _ _ _ _ q => q, fun U hU hW => ⟨rfl, trivial⟩⟩ rfl rfl hl.1 rfl (lv_room (Nat.le_of_ble_eq_true rfl)) dX0_same_27 ⟨Nat.zero_le _, Nat.zero_le _⟩) (fun r_27_1 er_27_1 => ?_)
    subst er_27_1
    refine va_sald (i := nI (1024 * p0 + w)) hx hb hK hP 1 0 rfl rfl (vp_in_nI (by omega) (by decide)) dX0_same_30 ?_
    refine lv_topi (fun x_31_2 ex_31_2 => ?_)
    obtain rfl : x_31_2 = fn (1024 * p0 + w) := by rw [ex_31_2]; rw [nI_clamp (show 1024 * p0 + w < 2 ^ 31 by omega)]
    refine lv_aload_n hx hb dX0_same_31 rfl (lv_at hl 1 rfl) ?_
    refine va_get (D := (dC, dI)) (ci := 0) (v := .ref (a 1)) (C := RX0) (T := TX0) (N := 2) hx hb hts inX0_same hown hK hP 0 rfl rfl 0 (by decide) (hts (.fieldLink RX0 9 "NumberCircuits" "numbers" "[S") (by decide +kernel)) (fun _ h9 => h9) rfl dX0_same_32 ?_
    refine lv_iload_n hx hb dX0_same_35 rfl (lv_at hl 3 rfl) ?_
    refine lv_iload_n hx hb dX0_same_36 rfl (lv_at hl 0 rfl) ?_
    refine vp_callSi (W.runS (As := [.int (nI q0), .int (nI w)]) (rest := [.ref (a 1), .int (fn (1024 * p0 + w))]) ⟨hx, hb, hml, hown, hts⟩ (c_place l q0 w) (va_cwS 2 hts gX0_same_X0_place rfl rfl rfl (by decide +kernel) ⟨Nat.le_of_ble_eq_true rfl, Nat.le_of_ble_eq_true rfl⟩) ⟨fun _ _ _ _ q => q, fun U hU hW => ⟨rfl, trivial⟩⟩ rfl rfl hl.1 rfl (lv_room (Nat.le_of_ble_eq_true rfl)) dX0_same_37 ⟨Nat.zero_le _, Nat.zero_le _⟩) (fun r_37_3 er_37_3 => ?_)
    subst er_37_3
    refine va_sald (i := nI (1024 * q0 + w)) hx hb hK hP 1 0 rfl rfl (vp_in_nI (by omega) (by decide)) dX0_same_40 ?_
    refine lv_topi (fun x_41_4 ex_41_4 => ?_)
    obtain rfl : x_41_4 = fn (1024 * q0 + w) := by rw [ex_41_4]; rw [nI_clamp (show 1024 * q0 + w < 2 ^ 31 by omega)]
    refine lv_icmp_eq (tgt := 46) hx hb dX0_same_41 (by decide) (fun c2 => ?_) (fun c2 => ?_)
    · refine lv_iinc (v := nI (w + 1)) (lv' := [(3, .int (nI (w + 1))), (0, .ref (a 0)), (1, .int (nI p0)), (2, .int (nI q0))]) hx hb dX0_same_46 hl (k := 0) rfl (nI_1 w) (by decide) rfl (fun ls hl => ?_)
      refine lv_goto (tgt := 14) hx hb dX0_same_49 (by decide) ?_
      exact ih hlt _ _ _ ⟨rfl, rfl, lt_s hq (decide_eq_true c2), (lv_sub hl [0, 1, 2, 3] rfl)⟩
    · refine lv_iconst (v := nI 0) hx hb dX0_same_44 (by decide +kernel) ?_
      exact W.zret hx hb hr (by decide +kernel) (fun t ht hW => ⟨_, rfl, (by rw [nAll_f (w := w) (decide_eq_false c2) 1024 hlt]; rfl), ht⟩) (fun _ h => absurd h List.not_mem_nil) dX0_same_45
set_option maxHeartbeats 4000000 in
set_option maxRecDepth 100000 in
theorem c_tidy (l : Launch) (dC : Nat → ClassId) (dI : Nat → Nat → Nat) (a : Nat → Nat) (k : Nat → ClassId) (fn ft gn gt gm : Nat → Int32) (fl : Int32) (o : Nat → Int64) (wh : Nat) (hwh : wh < 3) : Met l yX0_tidy wsX0_tidy ({ frames := 2, cells := 0, slots := 0, locals := 64 }) (va_Pc [.ref (a 0), .int (nI wh)] (nPw dC dI a k fn ft gn gt gm fl o)) (vp_Si (fun r => r = nI (nN (nqT fn) 8))) 0 0 (fun _ => False) := by
  refine Met.ofW (cc := cX0_tidy) (maxL := 4) (ret := (some .int)) (by decide) rfl ?_
  intro p e s m args below meth c s₁ B hml hv
  obtain ⟨rfl, hP, hK⟩ := hv
  have hx := B.exec
  have hb := B.bytes
  have hr := B.returns
  have hts := atoms_spec (ws := wsX0_tidy) B.pre
  have hown : s.vm.findClass RX0 = some m.cls := findClass_of_methodNamed B.named
  have hlocks := B.notSynchronized
  have hl := lv_entry ([.ref (a 0), .int (nI wh)]) (n := 4) (Nat.le_of_ble_eq_true rfl)
  rw [lg_entry_eq]
  generalize (lg_sl ([.ref (a 0), .int (nI wh)]) ++ List.replicate (4 - (lg_sl ([.ref (a 0), .int (nI wh)])).length) Slot.unset).toArray = ls at hl ⊢
  have hl : lv_has ls 4 [(0, .ref (a 0)), (1, .int (nI wh))] := hl
  refine lv_iload_n hx hb dX0_tidy_0 rfl (lv_at hl 1 rfl) ?_
  refine lv_iconst (v := nI 2) hx hb dX0_tidy_1 (by decide +kernel) ?_
  refine va_csv (W.runS (As := [.int (nI wh), .int (nI 2)]) (rest := []) ⟨hx, hb, hml, hown, hts⟩ (c_needUpTo l wh 2 (by omega) (by omega)) (va_cwS 2 hts gX0_tidy_X0_needUpTo rfl rfl rfl (by decide +kernel) ⟨Nat.le_of_ble_eq_true rfl, Nat.le_of_ble_eq_true rfl⟩) ⟨fun _ _ _ _ q => q, fun U hU hW => ⟨rfl, trivial⟩⟩ rfl rfl hl.1 rfl (lv_room (Nat.le_of_ble_eq_true rfl)) dX0_tidy_2 ⟨Nat.zero_le _, Nat.zero_le _⟩) (fun _ => ?_)
  refine lv_iconst (v := nI 0) hx hb dX0_tidy_5 (by decide +kernel) ?_
  refine lv_istore_n (lv' := [(2, .int (nI 0)), (0, .ref (a 0)), (1, .int (nI wh))]) hx hb dX0_tidy_6 rfl hl (by decide) rfl (fun ls hl => ?_)
  have hl : lv_has ls 4 [(2, .int (nI (nN (nqT fn) 0))), (0, .ref (a 0)), (1, .int (nI wh))] := hl
  refine lv_iconst (v := nI 0) hx hb dX0_tidy_7 (by decide +kernel) ?_
  refine lv_istore_n (lv' := [(3, .int (nI 0)), (2, .int (nI (nN (nqT fn) 0))), (0, .ref (a 0)), (1, .int (nI wh))]) hx hb dX0_tidy_8 rfl hl (by decide) rfl (fun ls hl => ?_)
  refine nc_loop 8 (fun w H locs ls => H = s.heap ∧ locs = [] ∧ lv_has ls 4 [(3, .int (nI w)), (2, .int (nI (nN (nqT fn) w))), (0, .ref (a 0)), (1, .int (nI wh))]) ⟨rfl, rfl, (lv_sub hl [0, 1, 2, 3] rfl)⟩ ?_
  intro w H locs ls hw hI ih
  obtain ⟨rfl, rfl, hl⟩ := hI
  refine lv_iload_n hx hb dX0_tidy_9 rfl (lv_at hl 0 rfl) ?_
  refine lv_bipush (v := nI 8) hx hb dX0_tidy_10 (by decide +kernel) ?_
  refine lv_icmp_ge (tgt := 37) hx hb dX0_tidy_12 (by decide) (fun c1 => ?_) (fun c1 => ?_)
  · obtain rfl : w = 8 := nHi (by decide) hw c1
    refine lv_iload_n hx hb dX0_tidy_37 rfl (lv_at hl 1 rfl) ?_
    exact W.iret hx hb hr (fun t ht hW => ⟨_, rfl, rfl, ht⟩) (fun _ h => absurd h List.not_mem_nil) dX0_tidy_38
  · have hlt : w < 8 := nLo (by decide) hw c1
    refine lv_iload_n hx hb dX0_tidy_15 rfl (lv_at hl 1 rfl) ?_
    refine lv_aload_n hx hb dX0_tidy_16 rfl (lv_at hl 2 rfl) ?_
    refine lv_iload_n hx hb dX0_tidy_17 rfl (lv_at hl 0 rfl) ?_
    refine vp_callSi (W.runV (As := [.int (nI w)]) (rest := [.int (nI (nN (nqT fn) w))]) ⟨hx, hb, hml, hown, hts⟩ (c_isZero l dC dI a k fn ft gn gt gm fl o w hlt) (cwV 1 hts gX0_tidy_X0_isZeroEverywhere rfl rfl rfl (by decide +kernel) ⟨Nat.le_of_ble_eq_true rfl, Nat.le_of_ble_eq_true rfl⟩) (nPreV hP hK (va_recv hK hP (ci := 0) (q0 := 0) rfl rfl)) rfl rfl hl.1 rfl (lv_room (Nat.le_of_ble_eq_true rfl)) dX0_tidy_18 ⟨Nat.zero_le _, Nat.zero_le _⟩) (fun r_18_1 er_18_1 => ?_)
    subst er_18_1
    refine lv_if_eq (tgt := 28) hx hb dX0_tidy_21 (by decide) (fun c2 => ?_) (fun c2 => ?_)
    · refine lv_iconst (v := nI 1) hx hb dX0_tidy_28 (by decide +kernel) ?_
      refine lv_iadd hx hb dX0_tidy_29 ?_
      refine lv_topi (fun x_30_2 ex_30_2 => ?_)
      obtain rfl : x_30_2 = nI (nN (nqT fn) (w + 1)) := by rw [ex_30_2]; rw [← nN_s, show (nqT fn) w = true from nqT_t (nb_f c2)]; rfl
      refine lv_istore_n (lv' := [(2, .int (nI (nN (nqT fn) (w + 1)))), (3, .int (nI w)), (0, .ref (a 0)), (1, .int (nI wh))]) hx hb dX0_tidy_30 rfl hl (by decide) rfl (fun ls hl => ?_)
      refine lv_iinc (v := nI (w + 1)) (lv' := [(3, .int (nI (w + 1))), (2, .int (nI (nN (nqT fn) (w + 1)))), (0, .ref (a 0)), (1, .int (nI wh))]) hx hb dX0_tidy_31 hl (k := 1) rfl (nI_1 w) (by decide) rfl (fun ls hl => ?_)
      refine lv_goto (tgt := 9) hx hb dX0_tidy_34 (by decide) ?_
      exact ih hlt _ _ _ ⟨rfl, rfl, (lv_sub hl [0, 1, 2, 3] rfl)⟩
    · refine lv_iconst (v := nI 0) hx hb dX0_tidy_24 (by decide +kernel) ?_
      refine lv_goto (tgt := 29) hx hb dX0_tidy_25 (by decide) ?_
      refine lv_iadd hx hb dX0_tidy_29 ?_
      refine lv_topi (fun x_30_2 ex_30_2 => ?_)
      obtain rfl : x_30_2 = nI (nN (nqT fn) (w + 1)) := by rw [ex_30_2]; rw [← nN_s, show (nqT fn) w = false from nqT_f (nb_t c2)]; rfl
      refine lv_istore_n (lv' := [(2, .int (nI (nN (nqT fn) (w + 1)))), (3, .int (nI w)), (0, .ref (a 0)), (1, .int (nI wh))]) hx hb dX0_tidy_30 rfl hl (by decide) rfl (fun ls hl => ?_)
      refine lv_iinc (v := nI (w + 1)) (lv' := [(3, .int (nI (w + 1))), (2, .int (nI (nN (nqT fn) (w + 1)))), (0, .ref (a 0)), (1, .int (nI wh))]) hx hb dX0_tidy_31 hl (k := 1) rfl (nI_1 w) (by decide) rfl (fun ls hl => ?_)
      refine lv_goto (tgt := 9) hx hb dX0_tidy_34 (by decide) ?_
      exact ih hlt _ _ _ ⟨rfl, rfl, (lv_sub hl [0, 1, 2, 3] rfl)⟩
