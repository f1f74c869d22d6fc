set_option maxHeartbeats 4000000 in
set_option maxRecDepth 100000 in
theorem m_compare (l : Launch) (dC : Nat → ClassId) (dI : Nat → Nat → Nat) (a : Nat → Nat) (k : Nat → ClassId) (fn ft gn gt gm : Nat → Int32) (fl : Int32) (o : Nat → Int64) (hinj : nInj a) (tr kd p0 q0 : Nat) (htr : tr < 8) (hkd : kd < 4) (hp0 : p0 < 8) (hq0 : q0 < 8) : Met l yX1_compare wsX1_compare ({ frames := 1, cells := 0, slots := 0, locals := 40 }) (va_Pc [.ref (a 3), .int (nI tr), .int (nI kd), .int (nI p0), .int (nI q0)] (nPw dC dI a k fn ft gn gt gm fl o)) (nQi (nI (nN (nyC gn kd p0 q0) 1024)) (nPw dC dI a k fn ft gn (nF gt (1024 * tr) 1024 (mvB (nyC gn kd p0 q0))) gm (nI 0) o) a) 0 0 (nA0 a) := by
  refine Met.ofW (cc := cX1_compare) (maxL := 8) (ret := (some .int)) (by decide) rfl ?_
  intro p e s m args below meth c s₁ B hml hv
  obtain ⟨rfl, hP, hK⟩ := hv
  have hx := B.exec
  have hb := B.bytes
  have hr := B.returns
  have hts := atoms_spec (ws := wsX1_compare) B.pre
  have hown : s.vm.findClass RX1 = some m.cls := findClass_of_methodNamed B.named
  have hlocks := B.notSynchronized
  have hS : va_S (nA0 a) s.heap s.heap [] := va_S.rf
  have hl := lv_entry ([.ref (a 3), .int (nI tr), .int (nI kd), .int (nI p0), .int (nI q0)]) (n := 8) (Nat.le_of_ble_eq_true rfl)
  rw [lg_entry_eq]
  generalize (lg_sl ([.ref (a 3), .int (nI tr), .int (nI kd), .int (nI p0), .int (nI q0)]) ++ List.replicate (8 - (lg_sl ([.ref (a 3), .int (nI tr), .int (nI kd), .int (nI p0), .int (nI q0)])).length) Slot.unset).toArray = ls at hl ⊢
  have hl : lv_has ls 8 [(0, .ref (a 3)), (1, .int (nI tr)), (2, .int (nI kd)), (3, .int (nI p0)), (4, .int (nI q0))] := hl
  refine lv_aload_n hx hb dX1_compare_0 rfl (lv_at hl 0 rfl) ?_
  refine lv_iconst (v := nI 0) hx hb dX1_compare_1 (by decide +kernel) ?_
  refine va_put (D := (dC, dI)) (ci := 1) (v := .int (nI 0)) (ty := .int) (C := RX1) (T := TX1) (N := 4) hx hb hts inX1_compare tyX1 tyX1_ok nmX1 hown hK hP (nDA hinj) hS 3 rfl rfl 0 (by decide) (hts (.fieldLink RX1 20 "NumberCircuitsModel" "failed" "I") (by decide +kernel)) (fun _ h9 => h9) rfl (by decide +kernel) rfl rfl (Nat.le_of_ble_eq_true rfl) dX1_compare_2 (fun H locs hP _ hS => ?_)
  have hP : va_P (dC, dI) vwCl (nW a k fn ft gn gt gm (nI 0) o) H := hP
  refine lv_aload_n hx hb dX1_compare_5 rfl (lv_at hl 0 rfl) ?_
  refine lv_iload_n hx hb dX1_compare_6 rfl (lv_at hl 1 rfl) ?_
  refine lv_bipush (v := nI 8) hx hb dX1_compare_7 (by decide +kernel) ?_
  refine vp_callSi (W.runV (As := [.int (nI tr), .int (nI 8)]) (rest := []) ⟨hx, hb, hml, hown, hts⟩ (m_out l dC dI a k fn ft gn gt gm (nI 0) o (nI tr) 8) (cwV 2 hts gX1_compare_X1_out rfl rfl rfl (by decide +kernel) ⟨Nat.le_of_ble_eq_true rfl, Nat.le_of_ble_eq_true rfl⟩) (nPreV hP hK (va_recv hK hP (ci := 1) (q0 := 3) rfl rfl)) rfl rfl hl.1 rfl (lv_room (Nat.le_of_ble_eq_true rfl)) dX1_compare_9 ⟨Nat.zero_le _, Nat.zero_le _⟩) (fun r_9_1 er_9_1 => ?_)
  rw [nO_in (by omega) (by decide)] at er_9_1
  subst er_9_1
  refine lv_if_ne (tgt := 45) hx hb dX1_compare_12 (by decide) (fun c => absurd c (by decide +kernel)) (fun _ => ?_)
  refine lv_aload_n hx hb dX1_compare_15 rfl (lv_at hl 0 rfl) ?_
  refine lv_iload_n hx hb dX1_compare_16 rfl (lv_at hl 2 rfl) ?_
  refine lv_iconst (v := nI 4) hx hb dX1_compare_17 (by decide +kernel) ?_
  refine vp_callSi (W.runV (As := [.int (nI kd), .int (nI 4)]) (rest := []) ⟨hx, hb, hml, hown, hts⟩ (m_out l dC dI a k fn ft gn gt gm (nI 0) o (nI kd) 4) (cwV 2 hts gX1_compare_X1_out rfl rfl rfl (by decide +kernel) ⟨Nat.le_of_ble_eq_true rfl, Nat.le_of_ble_eq_true rfl⟩) (nPreV hP hK (va_recv hK hP (ci := 1) (q0 := 3) rfl rfl)) rfl rfl hl.1 rfl (lv_room (Nat.le_of_ble_eq_true rfl)) dX1_compare_18 ⟨Nat.zero_le _, Nat.zero_le _⟩) (fun r_18_2 er_18_2 => ?_)
  rw [nO_in (by omega) (by decide)] at er_18_2
  subst er_18_2
  refine lv_if_ne (tgt := 45) hx hb dX1_compare_21 (by decide) (fun c => absurd c (by decide +kernel)) (fun _ => ?_)
  refine lv_aload_n hx hb dX1_compare_24 rfl (lv_at hl 0 rfl) ?_
  refine lv_iload_n hx hb dX1_compare_25 rfl (lv_at hl 3 rfl) ?_
  refine lv_bipush (v := nI 8) hx hb dX1_compare_26 (by decide +kernel) ?_
  refine vp_callSi (W.runV (As := [.int (nI p0), .int (nI 8)]) (rest := []) ⟨hx, hb, hml, hown, hts⟩ (m_out l dC dI a k fn ft gn gt gm (nI 0) o (nI p0) 8) (cwV 2 hts gX1_compare_X1_out rfl rfl rfl (by decide +kernel) ⟨Nat.le_of_ble_eq_true rfl, Nat.le_of_ble_eq_true rfl⟩) (nPreV hP hK (va_recv hK hP (ci := 1) (q0 := 3) rfl rfl)) rfl rfl hl.1 rfl (lv_room (Nat.le_of_ble_eq_true rfl)) dX1_compare_28 ⟨Nat.zero_le _, Nat.zero_le _⟩) (fun r_28_3 er_28_3 => ?_)
  rw [nO_in (by omega) (by decide)] at er_28_3
  subst er_28_3
  refine lv_if_ne (tgt := 45) hx hb dX1_compare_31 (by decide) (fun c => absurd c (by decide +kernel)) (fun _ => ?_)
  refine lv_aload_n hx hb dX1_compare_34 rfl (lv_at hl 0 rfl) ?_
  refine lv_iload hx hb dX1_compare_35 (lv_at hl 4 rfl) ?_
  refine lv_bipush (v := nI 8) hx hb dX1_compare_37 (by decide +kernel) ?_
  refine vp_callSi (W.runV (As := [.int (nI q0), .int (nI 8)]) (rest := []) ⟨hx, hb, hml, hown, hts⟩ (m_out l dC dI a k fn ft gn gt gm (nI 0) o (nI q0) 8) (cwV 2 hts gX1_compare_X1_out rfl rfl rfl (by decide +kernel) ⟨Nat.le_of_ble_eq_true rfl, Nat.le_of_ble_eq_true rfl⟩) (nPreV hP hK (va_recv hK hP (ci := 1) (q0 := 3) rfl rfl)) rfl rfl hl.1 rfl (lv_room (Nat.le_of_ble_eq_true rfl)) dX1_compare_39 ⟨Nat.zero_le _, Nat.zero_le _⟩) (fun r_39_4 er_39_4 => ?_)
  rw [nO_in (by omega) (by decide)] at er_39_4
  subst er_39_4
  refine lv_if_eq (tgt := 51) hx hb dX1_compare_42 (by decide) (fun _ => ?_) (fun c => absurd c (by decide +kernel))
  refine lv_iconst (v := nI 0) hx hb dX1_compare_51 (by decide +kernel) ?_
  refine lv_istore (lv' := [(5, .int (nI 0)), (0, .ref (a 3)), (1, .int (nI tr)), (2, .int (nI kd)), (3, .int (nI p0)), (4, .int (nI q0))]) hx hb dX1_compare_52 hl (by decide) rfl (fun ls hl => ?_)
  refine nc_loop 1024 (fun w H locs ls => va_P (dC, dI) vwCl (nW a k fn ft gn (nF gt (1024 * tr) w (mvB (nyC gn kd p0 q0))) gm (nI 0) o) H ∧ va_S (nA0 a) s.heap H locs ∧ lv_has ls 8 [(5, .int (nI w)), (0, .ref (a 3)), (1, .int (nI tr)), (2, .int (nI kd)), (3, .int (nI p0)), (4, .int (nI q0))]) ⟨(by rw [nF_0]; exact hP), hS, (lv_sub hl [0, 1, 2, 3, 4, 5] rfl)⟩ ?_
  intro w H locs ls hw hI ih
  obtain ⟨hP, hS, hl⟩ := hI
  refine lv_iload hx hb dX1_compare_54 (lv_at hl 0 rfl) ?_
  refine lv_sipush (v := nI 1024) hx hb dX1_compare_56 (by decide +kernel) ?_
  refine lv_icmp_ge (tgt := 183) hx hb dX1_compare_59 (by decide) (fun c1 => ?_) (fun c1 => ?_)
  · obtain rfl : w = 1024 := nHi (by decide) hw c1
    refine lv_aload_n hx hb dX1_compare_183 rfl (lv_at hl 1 rfl) ?_
    refine lv_iload_n hx hb dX1_compare_184 rfl (lv_at hl 2 rfl) ?_
    refine vp_callSi (W.runV (As := [.int (nI tr)]) (rest := []) ⟨hx, hb, hml, hown, hts⟩ (m_yes l dC dI a k fn ft gn (nF gt (1024 * tr) 1024 (mvB (nyC gn kd p0 q0))) gm (nI 0) o tr (nyC gn kd p0 q0) htr (fun w hw => nF_in hw)) (cwV 1 hts gX1_compare_X1_yes rfl rfl rfl (by decide +kernel) ⟨Nat.le_of_ble_eq_true rfl, Nat.le_of_ble_eq_true rfl⟩) (nPreV hP hK (va_recv hK hP (ci := 1) (q0 := 3) rfl rfl)) rfl rfl hl.1 rfl (lv_room (Nat.le_of_ble_eq_true rfl)) dX1_compare_185 ⟨Nat.zero_le _, Nat.zero_le _⟩) (fun r_185_5 er_185_5 => ?_)
    subst er_185_5
    exact W.iret hx hb hr (fun t ht hW => ⟨⟨_, (), rfl, rfl, by rw [ht]; exact hP, va_K.moved hW.alike hK⟩, hS.F ht⟩) hS.2.2 dX1_compare_188
  · have hlt : w < 1024 := nLo (by decide) hw c1
    refine lv_aload_n hx hb dX1_compare_62 rfl (lv_at hl 1 rfl) ?_
    refine va_get (D := (dC, dI)) (ci := 1) (v := .ref (a 4)) (C := RX1) (T := TX1) (N := 4) hx hb hts inX1_compare hown hK hP 3 rfl rfl 1 (by decide) (hts (.fieldLink RX1 7 "NumberCircuitsModel" "numbers" "[I") (by decide +kernel)) (fun _ h9 => h9) rfl dX1_compare_63 ?_
    refine lv_sipush (v := nI 1024) hx hb dX1_compare_66 (by decide +kernel) ?_
    refine lv_iload_n hx hb dX1_compare_69 rfl (lv_at hl 4 rfl) ?_
    refine lv_imul hx hb dX1_compare_70 ?_
    refine lv_iload hx hb dX1_compare_71 (lv_at hl 0 rfl) ?_
    refine lv_iadd hx hb dX1_compare_73 ?_
    refine lv_topi (fun x_74_5 ex_74_5 => ?_)
    obtain rfl : x_74_5 = nI (1024 * p0 + w) := by rw [ex_74_5]; rw [pk_mul, nI_add]
    refine va_iald (i := nI (1024 * p0 + w)) hx hb hK hP 4 2 rfl rfl (vp_in_nI (by omega) (by decide)) dX1_compare_74 ?_
    refine lv_topi (fun x_75_6 ex_75_6 => ?_)
    obtain rfl : x_75_6 = gn (1024 * p0 + w) := by rw [ex_75_6]; rw [nI_clamp (show 1024 * p0 + w < 2 ^ 31 by omega)]
    refine lv_istore (lv' := [(6, .int (gn (1024 * p0 + w))), (5, .int (nI w)), (0, .ref (a 3)), (1, .int (nI tr)), (2, .int (nI kd)), (3, .int (nI p0)), (4, .int (nI q0))]) hx hb dX1_compare_75 hl (by decide) rfl (fun ls hl => ?_)
    refine lv_aload_n hx hb dX1_compare_77 rfl (lv_at hl 2 rfl) ?_
    refine va_get (D := (dC, dI)) (ci := 1) (v := .ref (a 4)) (C := RX1) (T := TX1) (N := 4) hx hb hts inX1_compare hown hK hP 3 rfl rfl 1 (by decide) (hts (.fieldLink RX1 7 "NumberCircuitsModel" "numbers" "[I") (by decide +kernel)) (fun _ h9 => h9) rfl dX1_compare_78 ?_
    refine lv_sipush (v := nI 1024) hx hb dX1_compare_81 (by decide +kernel) ?_
    refine lv_iload hx hb dX1_compare_84 (lv_at hl 6 rfl) ?_
    refine lv_imul hx hb dX1_compare_86 ?_
    refine lv_iload hx hb dX1_compare_87 (lv_at hl 1 rfl) ?_
    refine lv_iadd hx hb dX1_compare_89 ?_
    refine lv_topi (fun x_90_7 ex_90_7 => ?_)
    obtain rfl : x_90_7 = nI (1024 * q0 + w) := by rw [ex_90_7]; rw [pk_mul, nI_add]
    refine va_iald (i := nI (1024 * q0 + w)) hx hb hK hP 4 2 rfl rfl (vp_in_nI (by omega) (by decide)) dX1_compare_90 ?_
    refine lv_topi (fun x_91_8 ex_91_8 => ?_)
    obtain rfl : x_91_8 = gn (1024 * q0 + w) := by rw [ex_91_8]; rw [nI_clamp (show 1024 * q0 + w < 2 ^ 31 by omega)]
    refine lv_istore (lv' := [(7, .int (gn (1024 * q0 + w))), (6, .int (gn (1024 * p0 + w))), (5, .int (nI w)), (0, .ref (a 3)), (1, .int (nI tr)), (2, .int (nI kd)), (3, .int (nI p0)), (4, .int (nI q0))]) hx hb dX1_compare_91 hl (by decide) rfl (fun ls hl => ?_)
    refine lv_aload_n hx hb dX1_compare_93 rfl (lv_at hl 3 rfl) ?_
    refine va_get (D := (dC, dI)) (ci := 1) (v := .ref (a 5)) (C := RX1) (T := TX1) (N := 4) hx hb hts inX1_compare hown hK hP 3 rfl rfl 2 (by decide) (hts (.fieldLink RX1 13 "NumberCircuitsModel" "truths" "[Z") (by decide +kernel)) (fun _ h9 => h9) rfl dX1_compare_94 ?_
    refine lv_sipush (v := nI 1024) hx hb dX1_compare_97 (by decide +kernel) ?_
    refine lv_iload_n hx hb dX1_compare_100 rfl (lv_at hl 4 rfl) ?_
    refine lv_imul hx hb dX1_compare_101 ?_
    refine lv_iload hx hb dX1_compare_102 (lv_at hl 2 rfl) ?_
    refine lv_iadd hx hb dX1_compare_104 ?_
    refine lv_topi (fun x_105_9 ex_105_9 => ?_)
    obtain rfl : x_105_9 = nI (1024 * tr + w) := by rw [ex_105_9]; rw [pk_mul, nI_add]
    rcases (show kd = 0 ∨ kd = 1 ∨ kd = 2 ∨ kd = 3 by omega) with rfl | rfl | rfl | rfl
    · refine lv_iload_n hx hb dX1_compare_105 rfl (lv_at hl 5 rfl) ?_
      refine lv_if_ne (tgt := 124) hx hb dX1_compare_106 (by decide) (fun c => absurd c (by decide +kernel)) (fun _ => ?_)
      refine lv_iload hx hb dX1_compare_109 (lv_at hl 1 rfl) ?_
      refine lv_iload hx hb dX1_compare_111 (lv_at hl 0 rfl) ?_
      refine lv_icmp_ne (tgt := 120) hx hb dX1_compare_113 (by decide) (fun c_113_10 => ?_) (fun c_113_10 => ?_)
      · refine lv_iconst (v := nI 0) hx hb dX1_compare_120 (by decide +kernel) ?_
        refine lv_goto (tgt := 176) hx hb dX1_compare_121 (by decide) ?_
        refine va_zast (i := nI (1024 * tr + w)) (x := nI 0) hx hb hK hP (nDA hinj) hS 5 3 rfl rfl (vp_in_nI (by omega) (by decide)) dX1_compare_176 (fun H locs hP _ hS => ?_)
        have e_176_11 : upd (nF gt (1024 * tr) w (mvB (nyC gn 0 p0 q0))) (nI (1024 * tr + w)).toNatClampNeg (vp_nar .boolean (nI 0)) = nF gt (1024 * tr) (w + 1) (mvB (nyC gn 0 p0 q0)) := nF_up (by omega) (by rw [nc0f c_113_10]; exact nb_z _)
        have hP : va_P (dC, dI) vwCl (nW a k fn ft gn (nF gt (1024 * tr) (w + 1) (mvB (nyC gn 0 p0 q0))) gm (nI 0) o) H := by rw [← e_176_11]; exact hP
        refine lv_iinc (v := nI (w + 1)) (lv' := [(5, .int (nI (w + 1))), (7, .int (gn (1024 * q0 + w))), (6, .int (gn (1024 * p0 + w))), (0, .ref (a 3)), (1, .int (nI tr)), (2, .int (nI 0)), (3, .int (nI p0)), (4, .int (nI q0))]) hx hb dX1_compare_177 hl (k := 2) rfl (nI_1 w) (by decide) rfl (fun ls hl => ?_)
        refine lv_goto (tgt := 54) hx hb dX1_compare_180 (by decide) ?_
        exact ih hlt _ _ _ ⟨hP, hS, (lv_sub hl [0, 3, 4, 5, 6, 7] rfl)⟩
      · refine lv_iconst (v := nI 1) hx hb dX1_compare_116 (by decide +kernel) ?_
        refine lv_goto (tgt := 176) hx hb dX1_compare_117 (by decide) ?_
        refine va_zast (i := nI (1024 * tr + w)) (x := nI 1) hx hb hK hP (nDA hinj) hS 5 3 rfl rfl (vp_in_nI (by omega) (by decide)) dX1_compare_176 (fun H locs hP _ hS => ?_)
        have e_176_11 : upd (nF gt (1024 * tr) w (mvB (nyC gn 0 p0 q0))) (nI (1024 * tr + w)).toNatClampNeg (vp_nar .boolean (nI 1)) = nF gt (1024 * tr) (w + 1) (mvB (nyC gn 0 p0 q0)) := nF_up (by omega) (by rw [nc0t c_113_10]; exact nb_z _)
        have hP : va_P (dC, dI) vwCl (nW a k fn ft gn (nF gt (1024 * tr) (w + 1) (mvB (nyC gn 0 p0 q0))) gm (nI 0) o) H := by rw [← e_176_11]; exact hP
        refine lv_iinc (v := nI (w + 1)) (lv' := [(5, .int (nI (w + 1))), (7, .int (gn (1024 * q0 + w))), (6, .int (gn (1024 * p0 + w))), (0, .ref (a 3)), (1, .int (nI tr)), (2, .int (nI 0)), (3, .int (nI p0)), (4, .int (nI q0))]) hx hb dX1_compare_177 hl (k := 2) rfl (nI_1 w) (by decide) rfl (fun ls hl => ?_)
        refine lv_goto (tgt := 54) hx hb dX1_compare_180 (by decide) ?_
        exact ih hlt _ _ _ ⟨hP, hS, (lv_sub hl [0, 3, 4, 5, 6, 7] rfl)⟩
    · refine lv_iload_n hx hb dX1_compare_105 rfl (lv_at hl 5 rfl) ?_
      refine lv_if_ne (tgt := 124) hx hb dX1_compare_106 (by decide) (fun _ => ?_) (fun c => absurd c (by decide +kernel))
      refine lv_iload_n hx hb dX1_compare_124 rfl (lv_at hl 5 rfl) ?_
      refine lv_iconst (v := nI 1) hx hb dX1_compare_125 (by decide +kernel) ?_
      refine lv_icmp_ne (tgt := 144) hx hb dX1_compare_126 (by decide) (fun c => absurd c (by decide +kernel)) (fun _ => ?_)
      refine lv_iload hx hb dX1_compare_129 (lv_at hl 1 rfl) ?_
      refine lv_iload hx hb dX1_compare_131 (lv_at hl 0 rfl) ?_
      refine lv_icmp_eq (tgt := 140) hx hb dX1_compare_133 (by decide) (fun c_133_10 => ?_) (fun c_133_10 => ?_)
      · refine lv_iconst (v := nI 0) hx hb dX1_compare_140 (by decide +kernel) ?_
        refine lv_goto (tgt := 176) hx hb dX1_compare_141 (by decide) ?_
        refine va_zast (i := nI (1024 * tr + w)) (x := nI 0) hx hb hK hP (nDA hinj) hS 5 3 rfl rfl (vp_in_nI (by omega) (by decide)) dX1_compare_176 (fun H locs hP _ hS => ?_)
        have e_176_11 : upd (nF gt (1024 * tr) w (mvB (nyC gn 1 p0 q0))) (nI (1024 * tr + w)).toNatClampNeg (vp_nar .boolean (nI 0)) = nF gt (1024 * tr) (w + 1) (mvB (nyC gn 1 p0 q0)) := nF_up (by omega) (by rw [nc1f c_133_10]; exact nb_z _)
        have hP : va_P (dC, dI) vwCl (nW a k fn ft gn (nF gt (1024 * tr) (w + 1) (mvB (nyC gn 1 p0 q0))) gm (nI 0) o) H := by rw [← e_176_11]; exact hP
        refine lv_iinc (v := nI (w + 1)) (lv' := [(5, .int (nI (w + 1))), (7, .int (gn (1024 * q0 + w))), (6, .int (gn (1024 * p0 + w))), (0, .ref (a 3)), (1, .int (nI tr)), (2, .int (nI 1)), (3, .int (nI p0)), (4, .int (nI q0))]) hx hb dX1_compare_177 hl (k := 2) rfl (nI_1 w) (by decide) rfl (fun ls hl => ?_)
        refine lv_goto (tgt := 54) hx hb dX1_compare_180 (by decide) ?_
        exact ih hlt _ _ _ ⟨hP, hS, (lv_sub hl [0, 3, 4, 5, 6, 7] rfl)⟩
      · refine lv_iconst (v := nI 1) hx hb dX1_compare_136 (by decide +kernel) ?_
        refine lv_goto (tgt := 176) hx hb dX1_compare_137 (by decide) ?_
        refine va_zast (i := nI (1024 * tr + w)) (x := nI 1) hx hb hK hP (nDA hinj) hS 5 3 rfl rfl (vp_in_nI (by omega) (by decide)) dX1_compare_176 (fun H locs hP _ hS => ?_)
        have e_176_11 : upd (nF gt (1024 * tr) w (mvB (nyC gn 1 p0 q0))) (nI (1024 * tr + w)).toNatClampNeg (vp_nar .boolean (nI 1)) = nF gt (1024 * tr) (w + 1) (mvB (nyC gn 1 p0 q0)) := nF_up (by omega) (by rw [nc1t c_133_10]; exact nb_z _)
        have hP : va_P (dC, dI) vwCl (nW a k fn ft gn (nF gt (1024 * tr) (w + 1) (mvB (nyC gn 1 p0 q0))) gm (nI 0) o) H := by rw [← e_176_11]; exact hP
        refine lv_iinc (v := nI (w + 1)) (lv' := [(5, .int (nI (w + 1))), (7, .int (gn (1024 * q0 + w))), (6, .int (gn (1024 * p0 + w))), (0, .ref (a 3)), (1, .int (nI tr)), (2, .int (nI 1)), (3, .int (nI p0)), (4, .int (nI q0))]) hx hb dX1_compare_177 hl (k := 2) rfl (nI_1 w) (by decide) rfl (fun ls hl => ?_)
        refine lv_goto (tgt := 54) hx hb dX1_compare_180 (by decide) ?_
        exact ih hlt _ _ _ ⟨hP, hS, (lv_sub hl [0, 3, 4, 5, 6, 7] rfl)⟩
    · refine lv_iload_n hx hb dX1_compare_105 rfl (lv_at hl 5 rfl) ?_
      refine lv_if_ne (tgt := 124) hx hb dX1_compare_106 (by decide) (fun _ => ?_) (fun c => absurd c (by decide +kernel))
      refine lv_iload_n hx hb dX1_compare_124 rfl (lv_at hl 5 rfl) ?_
      refine lv_iconst (v := nI 1) hx hb dX1_compare_125 (by decide +kernel) ?_
      refine lv_icmp_ne (tgt := 144) hx hb dX1_compare_126 (by decide) (fun _ => ?_) (fun c => absurd c (by decide +kernel))
      refine lv_iload_n hx hb dX1_compare_144 rfl (lv_at hl 5 rfl) ?_
      refine lv_iconst (v := nI 2) hx hb dX1_compare_145 (by decide +kernel) ?_
      refine lv_icmp_ne (tgt := 164) hx hb dX1_compare_146 (by decide) (fun c => absurd c (by decide +kernel)) (fun _ => ?_)
      refine lv_iload hx hb dX1_compare_149 (lv_at hl 1 rfl) ?_
      refine lv_iload hx hb dX1_compare_151 (lv_at hl 0 rfl) ?_
      refine lv_icmp_ge (tgt := 160) hx hb dX1_compare_153 (by decide) (fun c_153_10 => ?_) (fun c_153_10 => ?_)
      · refine lv_iconst (v := nI 0) hx hb dX1_compare_160 (by decide +kernel) ?_
        refine lv_goto (tgt := 176) hx hb dX1_compare_161 (by decide) ?_
        refine va_zast (i := nI (1024 * tr + w)) (x := nI 0) hx hb hK hP (nDA hinj) hS 5 3 rfl rfl (vp_in_nI (by omega) (by decide)) dX1_compare_176 (fun H locs hP _ hS => ?_)
        have e_176_11 : upd (nF gt (1024 * tr) w (mvB (nyC gn 2 p0 q0))) (nI (1024 * tr + w)).toNatClampNeg (vp_nar .boolean (nI 0)) = nF gt (1024 * tr) (w + 1) (mvB (nyC gn 2 p0 q0)) := nF_up (by omega) (by rw [nc2f c_153_10]; exact nb_z _)
        have hP : va_P (dC, dI) vwCl (nW a k fn ft gn (nF gt (1024 * tr) (w + 1) (mvB (nyC gn 2 p0 q0))) gm (nI 0) o) H := by rw [← e_176_11]; exact hP
        refine lv_iinc (v := nI (w + 1)) (lv' := [(5, .int (nI (w + 1))), (7, .int (gn (1024 * q0 + w))), (6, .int (gn (1024 * p0 + w))), (0, .ref (a 3)), (1, .int (nI tr)), (2, .int (nI 2)), (3, .int (nI p0)), (4, .int (nI q0))]) hx hb dX1_compare_177 hl (k := 2) rfl (nI_1 w) (by decide) rfl (fun ls hl => ?_)
        refine lv_goto (tgt := 54) hx hb dX1_compare_180 (by decide) ?_
        exact ih hlt _ _ _ ⟨hP, hS, (lv_sub hl [0, 3, 4, 5, 6, 7] rfl)⟩
      · refine lv_iconst (v := nI 1) hx hb dX1_compare_156 (by decide +kernel) ?_
        refine lv_goto (tgt := 176) hx hb dX1_compare_157 (by decide) ?_
        refine va_zast (i := nI (1024 * tr + w)) (x := nI 1) hx hb hK hP (nDA hinj) hS 5 3 rfl rfl (vp_in_nI (by omega) (by decide)) dX1_compare_176 (fun H locs hP _ hS => ?_)
        have e_176_11 : upd (nF gt (1024 * tr) w (mvB (nyC gn 2 p0 q0))) (nI (1024 * tr + w)).toNatClampNeg (vp_nar .boolean (nI 1)) = nF gt (1024 * tr) (w + 1) (mvB (nyC gn 2 p0 q0)) := nF_up (by omega) (by rw [nc2t c_153_10]; exact nb_z _)
        have hP : va_P (dC, dI) vwCl (nW a k fn ft gn (nF gt (1024 * tr) (w + 1) (mvB (nyC gn 2 p0 q0))) gm (nI 0) o) H := by rw [← e_176_11]; exact hP
        refine lv_iinc (v := nI (w + 1)) (lv' := [(5, .int (nI (w + 1))), (7, .int (gn (1024 * q0 + w))), (6, .int (gn (1024 * p0 + w))), (0, .ref (a 3)), (1, .int (nI tr)), (2, .int (nI 2)), (3, .int (nI p0)), (4, .int (nI q0))]) hx hb dX1_compare_177 hl (k := 2) rfl (nI_1 w) (by decide) rfl (fun ls hl => ?_)
        refine lv_goto (tgt := 54) hx hb dX1_compare_180 (by decide) ?_
        exact ih hlt _ _ _ ⟨hP, hS, (lv_sub hl [0, 3, 4, 5, 6, 7] rfl)⟩
    · refine lv_iload_n hx hb dX1_compare_105 rfl (lv_at hl 5 rfl) ?_
      refine lv_if_ne (tgt := 124) hx hb dX1_compare_106 (by decide) (fun _ => ?_) (fun c => absurd c (by decide +kernel))
      refine lv_iload_n hx hb dX1_compare_124 rfl (lv_at hl 5 rfl) ?_
      refine lv_iconst (v := nI 1) hx hb dX1_compare_125 (by decide +kernel) ?_
      refine lv_icmp_ne (tgt := 144) hx hb dX1_compare_126 (by decide) (fun _ => ?_) (fun c => absurd c (by decide +kernel))
      refine lv_iload_n hx hb dX1_compare_144 rfl (lv_at hl 5 rfl) ?_
      refine lv_iconst (v := nI 2) hx hb dX1_compare_145 (by decide +kernel) ?_
      refine lv_icmp_ne (tgt := 164) hx hb dX1_compare_146 (by decide) (fun _ => ?_) (fun c => absurd c (by decide +kernel))
      refine lv_iload hx hb dX1_compare_164 (lv_at hl 1 rfl) ?_
      refine lv_iload hx hb dX1_compare_166 (lv_at hl 0 rfl) ?_
      refine lv_icmp_gt (tgt := 175) hx hb dX1_compare_168 (by decide) (fun c_168_10 => ?_) (fun c_168_10 => ?_)
      · refine lv_iconst (v := nI 0) hx hb dX1_compare_175 (by decide +kernel) ?_
        refine va_zast (i := nI (1024 * tr + w)) (x := nI 0) hx hb hK hP (nDA hinj) hS 5 3 rfl rfl (vp_in_nI (by omega) (by decide)) dX1_compare_176 (fun H locs hP _ hS => ?_)
        have e_176_11 : upd (nF gt (1024 * tr) w (mvB (nyC gn 3 p0 q0))) (nI (1024 * tr + w)).toNatClampNeg (vp_nar .boolean (nI 0)) = nF gt (1024 * tr) (w + 1) (mvB (nyC gn 3 p0 q0)) := nF_up (by omega) (by rw [nc3f c_168_10]; exact nb_z _)
        have hP : va_P (dC, dI) vwCl (nW a k fn ft gn (nF gt (1024 * tr) (w + 1) (mvB (nyC gn 3 p0 q0))) gm (nI 0) o) H := by rw [← e_176_11]; exact hP
        refine lv_iinc (v := nI (w + 1)) (lv' := [(5, .int (nI (w + 1))), (7, .int (gn (1024 * q0 + w))), (6, .int (gn (1024 * p0 + w))), (0, .ref (a 3)), (1, .int (nI tr)), (2, .int (nI 3)), (3, .int (nI p0)), (4, .int (nI q0))]) hx hb dX1_compare_177 hl (k := 2) rfl (nI_1 w) (by decide) rfl (fun ls hl => ?_)
        refine lv_goto (tgt := 54) hx hb dX1_compare_180 (by decide) ?_
        exact ih hlt _ _ _ ⟨hP, hS, (lv_sub hl [0, 3, 4, 5, 6, 7] rfl)⟩
      · refine lv_iconst (v := nI 1) hx hb dX1_compare_171 (by decide +kernel) ?_
        refine lv_goto (tgt := 176) hx hb dX1_compare_172 (by decide) ?_
        refine va_zast (i := nI (1024 * tr + w)) (x := nI 1) hx hb hK hP (nDA hinj) hS 5 3 rfl rfl (vp_in_nI (by omega) (by decide)) dX1_compare_176 (fun H locs hP _ hS => ?_)
        have e_176_11 : upd (nF gt (1024 * tr) w (mvB (nyC gn 3 p0 q0))) (nI (1024 * tr + w)).toNatClampNeg (vp_nar .boolean (nI 1)) = nF gt (1024 * tr) (w + 1) (mvB (nyC gn 3 p0 q0)) := nF_up (by omega) (by rw [nc3t c_168_10]; exact nb_z _)
        have hP : va_P (dC, dI) vwCl (nW a k fn ft gn (nF gt (1024 * tr) (w + 1) (mvB (nyC gn 3 p0 q0))) gm (nI 0) o) H := by rw [← e_176_11]; exact hP
        refine lv_iinc (v := nI (w + 1)) (lv' := [(5, .int (nI (w + 1))), (7, .int (gn (1024 * q0 + w))), (6, .int (gn (1024 * p0 + w))), (0, .ref (a 3)), (1, .int (nI tr)), (2, .int (nI 3)), (3, .int (nI p0)), (4, .int (nI q0))]) hx hb dX1_compare_177 hl (k := 2) rfl (nI_1 w) (by decide) rfl (fun ls hl => ?_)
        refine lv_goto (tgt := 54) hx hb dX1_compare_180 (by decide) ?_
        exact ih hlt _ _ _ ⟨hP, hS, (lv_sub hl [0, 3, 4, 5, 6, 7] rfl)⟩
theorem nb1f {b : Bool} (h : ¬ nb b = nI 1) : vp_nar .boolean (nI 0) = nb b := by
  cases b with
  | false => decide +kernel
  | true => exact absurd rfl h
theorem nb1t {b : Bool} (h : nb b = nI 1) : vp_nar .boolean (nI 1) = nb b := by
  cases b with
  | false => exact absurd h (by decide +kernel)
  | true => decide +kernel
set_option maxHeartbeats 4000000 in
set_option maxRecDepth 100000 in
theorem m_join (l : Launch) (dC : Nat → ClassId) (dI : Nat → Nat → Nat) (a : Nat → Nat) (k : Nat → ClassId) (fn ft gn gt gm : Nat → Int32) (fl : Int32) (o : Nat → Int64) (hinj : nInj a) (tb : Nat → Nat → Bool) (htb : ∀ t w : Nat, t < 8 → w < 1024 → gt (1024 * t + w) = nb (tb t w)) (tr kd p0 q0 : Nat) (htr : tr < 8) (hkd : kd < 4) (hp0 : p0 < 8) (hq0 : q0 < 8) : Met l yX1_join wsX1_join ({ frames := 1, cells := 0, slots := 0, locals := 40 }) (va_Pc [.ref (a 3), .int (nI tr), .int (nI kd), .int (nI p0), .int (nI q0)] (nPw dC dI a k fn ft gn gt gm fl o)) (nQi (nI (nN (myJ tb kd p0 q0) 1024)) (nPw dC dI a k fn ft gn (nF gt (1024 * tr) 1024 (mvB (myJ tb kd p0 q0))) (nF gm 0 1024 (mvB (myJ tb kd p0 q0))) (nI 0) o) a) 0 0 (nA0 a) := by
  refine Met.ofW (cc := cX1_join) (maxL := 8) (ret := (some .int)) (by decide) rfl ?_
  intro p e s m args below meth c s₁ B hml hv
  obtain ⟨rfl, hP, hK⟩ := hv
  have hx := B.exec
  have hb := B.bytes
  have hr := B.returns
  have hts := atoms_spec (ws := wsX1_join) B.pre
  have hown : s.vm.findClass RX1 = some m.cls := findClass_of_methodNamed B.named
  have hlocks := B.notSynchronized
  have hS : va_S (nA0 a) s.heap s.heap [] := va_S.rf
  have hl := lv_entry ([.ref (a 3), .int (nI tr), .int (nI kd), .int (nI p0), .int (nI q0)]) (n := 8) (Nat.le_of_ble_eq_true rfl)
  rw [lg_entry_eq]
  generalize (lg_sl ([.ref (a 3), .int (nI tr), .int (nI kd), .int (nI p0), .int (nI q0)]) ++ List.replicate (8 - (lg_sl ([.ref (a 3), .int (nI tr), .int (nI kd), .int (nI p0), .int (nI q0)])).length) Slot.unset).toArray = ls at hl ⊢
  have hl : lv_has ls 8 [(0, .ref (a 3)), (1, .int (nI tr)), (2, .int (nI kd)), (3, .int (nI p0)), (4, .int (nI q0))] := hl
  refine lv_aload_n hx hb dX1_join_0 rfl (lv_at hl 0 rfl) ?_
  refine lv_iconst (v := nI 0) hx hb dX1_join_1 (by decide +kernel) ?_
  refine va_put (D := (dC, dI)) (ci := 1) (v := .int (nI 0)) (ty := .int) (C := RX1) (T := TX1) (N := 4) hx hb hts inX1_join tyX1 tyX1_ok nmX1 hown hK hP (nDA hinj) hS 3 rfl rfl 0 (by decide) (hts (.fieldLink RX1 20 "NumberCircuitsModel" "failed" "I") (by decide +kernel)) (fun _ h9 => h9) rfl (by decide +kernel) rfl rfl (Nat.le_of_ble_eq_true rfl) dX1_join_2 (fun H locs hP _ hS => ?_)
  have hP : va_P (dC, dI) vwCl (nW a k fn ft gn gt gm (nI 0) o) H := hP
  refine lv_aload_n hx hb dX1_join_5 rfl (lv_at hl 0 rfl) ?_
  refine lv_iload_n hx hb dX1_join_6 rfl (lv_at hl 1 rfl) ?_
  refine lv_bipush (v := nI 8) hx hb dX1_join_7 (by decide +kernel) ?_
  refine vp_callSi (W.runV (As := [.int (nI tr), .int (nI 8)]) (rest := []) ⟨hx, hb, hml, hown, hts⟩ (m_out l dC dI a k fn ft gn gt gm (nI 0) o (nI tr) 8) (cwV 2 hts gX1_join_X1_out rfl rfl rfl (by decide +kernel) ⟨Nat.le_of_ble_eq_true rfl, Nat.le_of_ble_eq_true rfl⟩) (nPreV hP hK (va_recv hK hP (ci := 1) (q0 := 3) rfl rfl)) rfl rfl hl.1 rfl (lv_room (Nat.le_of_ble_eq_true rfl)) dX1_join_9 ⟨Nat.zero_le _, Nat.zero_le _⟩) (fun r_9_1 er_9_1 => ?_)
  rw [nO_in (by omega) (by decide)] at er_9_1
  subst er_9_1
  refine lv_if_ne (tgt := 45) hx hb dX1_join_12 (by decide) (fun c => absurd c (by decide +kernel)) (fun _ => ?_)
  refine lv_aload_n hx hb dX1_join_15 rfl (lv_at hl 0 rfl) ?_
  refine lv_iload_n hx hb dX1_join_16 rfl (lv_at hl 2 rfl) ?_
  refine lv_iconst (v := nI 4) hx hb dX1_join_17 (by decide +kernel) ?_
  refine vp_callSi (W.runV (As := [.int (nI kd), .int (nI 4)]) (rest := []) ⟨hx, hb, hml, hown, hts⟩ (m_out l dC dI a k fn ft gn gt gm (nI 0) o (nI kd) 4) (cwV 2 hts gX1_join_X1_out rfl rfl rfl (by decide +kernel) ⟨Nat.le_of_ble_eq_true rfl, Nat.le_of_ble_eq_true rfl⟩) (nPreV hP hK (va_recv hK hP (ci := 1) (q0 := 3) rfl rfl)) rfl rfl hl.1 rfl (lv_room (Nat.le_of_ble_eq_true rfl)) dX1_join_18 ⟨Nat.zero_le _, Nat.zero_le _⟩) (fun r_18_2 er_18_2 => ?_)
  rw [nO_in (by omega) (by decide)] at er_18_2
  subst er_18_2
  refine lv_if_ne (tgt := 45) hx hb dX1_join_21 (by decide) (fun c => absurd c (by decide +kernel)) (fun _ => ?_)
  refine lv_aload_n hx hb dX1_join_24 rfl (lv_at hl 0 rfl) ?_
  refine lv_iload_n hx hb dX1_join_25 rfl (lv_at hl 3 rfl) ?_
  refine lv_bipush (v := nI 8) hx hb dX1_join_26 (by decide +kernel) ?_
  refine vp_callSi (W.runV (As := [.int (nI p0), .int (nI 8)]) (rest := []) ⟨hx, hb, hml, hown, hts⟩ (m_out l dC dI a k fn ft gn gt gm (nI 0) o (nI p0) 8) (cwV 2 hts gX1_join_X1_out rfl rfl rfl (by decide +kernel) ⟨Nat.le_of_ble_eq_true rfl, Nat.le_of_ble_eq_true rfl⟩) (nPreV hP hK (va_recv hK hP (ci := 1) (q0 := 3) rfl rfl)) rfl rfl hl.1 rfl (lv_room (Nat.le_of_ble_eq_true rfl)) dX1_join_28 ⟨Nat.zero_le _, Nat.zero_le _⟩) (fun r_28_3 er_28_3 => ?_)
  rw [nO_in (by omega) (by decide)] at er_28_3
  subst er_28_3
  refine lv_if_ne (tgt := 45) hx hb dX1_join_31 (by decide) (fun c => absurd c (by decide +kernel)) (fun _ => ?_)
  refine lv_aload_n hx hb dX1_join_34 rfl (lv_at hl 0 rfl) ?_
  refine lv_iload hx hb dX1_join_35 (lv_at hl 4 rfl) ?_
  refine lv_bipush (v := nI 8) hx hb dX1_join_37 (by decide +kernel) ?_
  refine vp_callSi (W.runV (As := [.int (nI q0), .int (nI 8)]) (rest := []) ⟨hx, hb, hml, hown, hts⟩ (m_out l dC dI a k fn ft gn gt gm (nI 0) o (nI q0) 8) (cwV 2 hts gX1_join_X1_out rfl rfl rfl (by decide +kernel) ⟨Nat.le_of_ble_eq_true rfl, Nat.le_of_ble_eq_true rfl⟩) (nPreV hP hK (va_recv hK hP (ci := 1) (q0 := 3) rfl rfl)) rfl rfl hl.1 rfl (lv_room (Nat.le_of_ble_eq_true rfl)) dX1_join_39 ⟨Nat.zero_le _, Nat.zero_le _⟩) (fun r_39_4 er_39_4 => ?_)
  rw [nO_in (by omega) (by decide)] at er_39_4
  subst er_39_4
  refine lv_if_eq (tgt := 51) hx hb dX1_join_42 (by decide) (fun _ => ?_) (fun c => absurd c (by decide +kernel))
  refine lv_iconst (v := nI 0) hx hb dX1_join_51 (by decide +kernel) ?_
  refine lv_istore (lv' := [(5, .int (nI 0)), (0, .ref (a 3)), (1, .int (nI tr)), (2, .int (nI kd)), (3, .int (nI p0)), (4, .int (nI q0))]) hx hb dX1_join_52 hl (by decide) rfl (fun ls hl => ?_)
  refine nc_loop 1024 (fun w H locs ls => va_P (dC, dI) vwCl (nW a k fn ft gn gt (nF gm 0 w (mvB (myJ tb kd p0 q0))) (nI 0) o) H ∧ va_S (nA0 a) s.heap H locs ∧ lv_has ls 8 [(5, .int (nI w)), (0, .ref (a 3)), (1, .int (nI tr)), (2, .int (nI kd)), (3, .int (nI p0)), (4, .int (nI q0))]) ⟨(by rw [nF_0]; exact hP), hS, (lv_sub hl [0, 1, 2, 3, 4, 5] rfl)⟩ ?_
  intro w H locs ls hw hI ih
  obtain ⟨hP, hS, hl⟩ := hI
  refine lv_iload hx hb dX1_join_54 (lv_at hl 0 rfl) ?_
  refine lv_sipush (v := nI 1024) hx hb dX1_join_56 (by decide +kernel) ?_
  refine lv_icmp_ge (tgt := 166) hx hb dX1_join_59 (by decide) (fun c1 => ?_) (fun c1 => ?_)
  · obtain rfl : w = 1024 := nHi (by decide) hw c1
    refine lv_iconst (v := nI 0) hx hb dX1_join_166 (by decide +kernel) ?_
    refine lv_istore (lv' := [(5, .int (nI 0)), (0, .ref (a 3)), (1, .int (nI tr)), (2, .int (nI kd)), (3, .int (nI p0)), (4, .int (nI q0))]) hx hb dX1_join_167 hl (by decide) rfl (fun ls hl => ?_)
    refine nc_loop 1024 (fun w H locs ls => va_P (dC, dI) vwCl (nW a k fn ft gn (nF gt (1024 * tr) w (mvB (myJ tb kd p0 q0))) (nF gm 0 1024 (mvB (myJ tb kd p0 q0))) (nI 0) o) H ∧ va_S (nA0 a) s.heap H locs ∧ lv_has ls 8 [(5, .int (nI w)), (0, .ref (a 3)), (1, .int (nI tr)), (2, .int (nI kd)), (3, .int (nI p0)), (4, .int (nI q0))]) ⟨(by rw [nF_0]; exact hP), hS, (lv_sub hl [0, 1, 2, 3, 4, 5] rfl)⟩ ?_
    intro w H locs ls hw hI ih
    obtain ⟨hP, hS, hl⟩ := hI
    refine lv_iload hx hb dX1_join_169 (lv_at hl 0 rfl) ?_
    refine lv_sipush (v := nI 1024) hx hb dX1_join_171 (by decide +kernel) ?_
    refine lv_icmp_ge (tgt := 212) hx hb dX1_join_174 (by decide) (fun c1 => ?_) (fun c1 => ?_)
    · obtain rfl : w = 1024 := nHi (by decide) hw c1
      refine lv_aload_n hx hb dX1_join_212 rfl (lv_at hl 1 rfl) ?_
      refine lv_iload_n hx hb dX1_join_213 rfl (lv_at hl 2 rfl) ?_
      refine vp_callSi (W.runV (As := [.int (nI tr)]) (rest := []) ⟨hx, hb, hml, hown, hts⟩ (m_yes l dC dI a k fn ft gn (nF gt (1024 * tr) 1024 (mvB (myJ tb kd p0 q0))) (nF gm 0 1024 (mvB (myJ tb kd p0 q0))) (nI 0) o tr (myJ tb kd p0 q0) htr (fun w hw => nF_in hw)) (cwV 1 hts gX1_join_X1_yes rfl rfl rfl (by decide +kernel) ⟨Nat.le_of_ble_eq_true rfl, Nat.le_of_ble_eq_true rfl⟩) (nPreV hP hK (va_recv hK hP (ci := 1) (q0 := 3) rfl rfl)) rfl rfl hl.1 rfl (lv_room (Nat.le_of_ble_eq_true rfl)) dX1_join_214 ⟨Nat.zero_le _, Nat.zero_le _⟩) (fun r_214_5 er_214_5 => ?_)
      subst er_214_5
      exact W.iret hx hb hr (fun t ht hW => ⟨⟨_, (), rfl, rfl, by rw [ht]; exact hP, va_K.moved hW.alike hK⟩, hS.F ht⟩) hS.2.2 dX1_join_217
    · have hlt : w < 1024 := nLo (by decide) hw c1
      refine lv_aload_n hx hb dX1_join_177 rfl (lv_at hl 1 rfl) ?_
      refine va_get (D := (dC, dI)) (ci := 1) (v := .ref (a 5)) (C := RX1) (T := TX1) (N := 4) hx hb hts inX1_join hown hK hP 3 rfl rfl 2 (by decide) (hts (.fieldLink RX1 13 "NumberCircuitsModel" "truths" "[Z") (by decide +kernel)) (fun _ h9 => h9) rfl dX1_join_178 ?_
      refine lv_sipush (v := nI 1024) hx hb dX1_join_181 (by decide +kernel) ?_
      refine lv_iload_n hx hb dX1_join_184 rfl (lv_at hl 2 rfl) ?_
      refine lv_imul hx hb dX1_join_185 ?_
      refine lv_iload hx hb dX1_join_186 (lv_at hl 0 rfl) ?_
      refine lv_iadd hx hb dX1_join_188 ?_
      refine lv_topi (fun x_189_5 ex_189_5 => ?_)
      obtain rfl : x_189_5 = nI (1024 * tr + w) := by rw [ex_189_5]; rw [pk_mul, nI_add]
      refine lv_aload_n hx hb dX1_join_189 rfl (lv_at hl 1 rfl) ?_
      refine va_get (D := (dC, dI)) (ci := 1) (v := .ref (a 6)) (C := RX1) (T := TX1) (N := 4) hx hb hts inX1_join hown hK hP 3 rfl rfl 3 (by decide) (hts (.fieldLink RX1 17 "NumberCircuitsModel" "made" "[I") (by decide +kernel)) (fun _ h9 => h9) rfl dX1_join_190 ?_
      refine lv_iload hx hb dX1_join_193 (lv_at hl 0 rfl) ?_
      refine va_iald (i := nI w) hx hb hK hP 6 4 rfl rfl (vp_in_nI (by omega) (by decide)) dX1_join_195 ?_
      refine lv_topi (fun x_196_6 ex_196_6 => ?_)
      obtain rfl : x_196_6 = nb ((myJ tb kd p0 q0) w) := by rw [ex_196_6]; rw [nI_clamp (show w < 2 ^ 31 by omega)]; exact nF_in0 hlt
      refine lv_iconst (v := nI 1) hx hb dX1_join_196 (by decide +kernel) ?_
      refine lv_icmp_ne (tgt := 204) hx hb dX1_join_197 (by decide) (fun c2 => ?_) (fun c2 => ?_)
      · refine lv_iconst (v := nI 0) hx hb dX1_join_204 (by decide +kernel) ?_
        refine va_zast (i := nI (1024 * tr + w)) (x := nI 0) hx hb hK hP (nDA hinj) hS 5 3 rfl rfl (vp_in_nI (by omega) (by decide)) dX1_join_205 (fun H locs hP _ hS => ?_)
        have e_205_7 : upd (nF gt (1024 * tr) w (mvB (myJ tb kd p0 q0))) (nI (1024 * tr + w)).toNatClampNeg (vp_nar .boolean (nI 0)) = nF gt (1024 * tr) (w + 1) (mvB (myJ tb kd p0 q0)) := nF_up (by omega) (nb1f c2)
        have hP : va_P (dC, dI) vwCl (nW a k fn ft gn (nF gt (1024 * tr) (w + 1) (mvB (myJ tb kd p0 q0))) (nF gm 0 1024 (mvB (myJ tb kd p0 q0))) (nI 0) o) H := by rw [← e_205_7]; exact hP
        refine lv_iinc (v := nI (w + 1)) (lv' := [(5, .int (nI (w + 1))), (0, .ref (a 3)), (1, .int (nI tr)), (2, .int (nI kd)), (3, .int (nI p0)), (4, .int (nI q0))]) hx hb dX1_join_206 hl (k := 0) rfl (nI_1 w) (by decide) rfl (fun ls hl => ?_)
        refine lv_goto (tgt := 169) hx hb dX1_join_209 (by decide) ?_
        exact ih hlt _ _ _ ⟨hP, hS, (lv_sub hl [0, 1, 2, 3, 4, 5] rfl)⟩
      · refine lv_iconst (v := nI 1) hx hb dX1_join_200 (by decide +kernel) ?_
        refine lv_goto (tgt := 205) hx hb dX1_join_201 (by decide) ?_
        refine va_zast (i := nI (1024 * tr + w)) (x := nI 1) hx hb hK hP (nDA hinj) hS 5 3 rfl rfl (vp_in_nI (by omega) (by decide)) dX1_join_205 (fun H locs hP _ hS => ?_)
        have e_205_7 : upd (nF gt (1024 * tr) w (mvB (myJ tb kd p0 q0))) (nI (1024 * tr + w)).toNatClampNeg (vp_nar .boolean (nI 1)) = nF gt (1024 * tr) (w + 1) (mvB (myJ tb kd p0 q0)) := nF_up (by omega) (nb1t c2)
        have hP : va_P (dC, dI) vwCl (nW a k fn ft gn (nF gt (1024 * tr) (w + 1) (mvB (myJ tb kd p0 q0))) (nF gm 0 1024 (mvB (myJ tb kd p0 q0))) (nI 0) o) H := by rw [← e_205_7]; exact hP
        refine lv_iinc (v := nI (w + 1)) (lv' := [(5, .int (nI (w + 1))), (0, .ref (a 3)), (1, .int (nI tr)), (2, .int (nI kd)), (3, .int (nI p0)), (4, .int (nI q0))]) hx hb dX1_join_206 hl (k := 0) rfl (nI_1 w) (by decide) rfl (fun ls hl => ?_)
        refine lv_goto (tgt := 169) hx hb dX1_join_209 (by decide) ?_
        exact ih hlt _ _ _ ⟨hP, hS, (lv_sub hl [0, 1, 2, 3, 4, 5] rfl)⟩
  · have hlt : w < 1024 := nLo (by decide) hw c1
    refine lv_aload_n hx hb dX1_join_62 rfl (lv_at hl 1 rfl) ?_
    refine va_get (D := (dC, dI)) (ci := 1) (v := .ref (a 5)) (C := RX1) (T := TX1) (N := 4) hx hb hts inX1_join hown hK hP 3 rfl rfl 2 (by decide) (hts (.fieldLink RX1 13 "NumberCircuitsModel" "truths" "[Z") (by decide +kernel)) (fun _ h9 => h9) rfl dX1_join_63 ?_
    refine lv_sipush (v := nI 1024) hx hb dX1_join_66 (by decide +kernel) ?_
    refine lv_iload_n hx hb dX1_join_69 rfl (lv_at hl 4 rfl) ?_
    refine lv_imul hx hb dX1_join_70 ?_
    refine lv_iload hx hb dX1_join_71 (lv_at hl 0 rfl) ?_
    refine lv_iadd hx hb dX1_join_73 ?_
    refine lv_topi (fun x_74_5 ex_74_5 => ?_)
    obtain rfl : x_74_5 = nI (1024 * p0 + w) := by rw [ex_74_5]; rw [pk_mul, nI_add]
    refine va_zald (i := nI (1024 * p0 + w)) hx hb hK hP 5 3 rfl rfl (vp_in_nI (by omega) (by decide)) dX1_join_74 ?_
    refine lv_topi (fun x_75_6 ex_75_6 => ?_)
    obtain rfl : x_75_6 = nb (tb p0 w) := by rw [ex_75_6]; rw [nI_clamp (show 1024 * p0 + w < 2 ^ 31 by omega)]; exact htb p0 w hp0 hlt
    refine lv_istore (lv' := [(6, .int (nb (tb p0 w))), (5, .int (nI w)), (0, .ref (a 3)), (1, .int (nI tr)), (2, .int (nI kd)), (3, .int (nI p0)), (4, .int (nI q0))]) hx hb dX1_join_75 hl (by decide) rfl (fun ls hl => ?_)
    refine lv_aload_n hx hb dX1_join_77 rfl (lv_at hl 2 rfl) ?_
    refine va_get (D := (dC, dI)) (ci := 1) (v := .ref (a 5)) (C := RX1) (T := TX1) (N := 4) hx hb hts inX1_join hown hK hP 3 rfl rfl 2 (by decide) (hts (.fieldLink RX1 13 "NumberCircuitsModel" "truths" "[Z") (by decide +kernel)) (fun _ h9 => h9) rfl dX1_join_78 ?_
    refine lv_sipush (v := nI 1024) hx hb dX1_join_81 (by decide +kernel) ?_
    refine lv_iload hx hb dX1_join_84 (lv_at hl 6 rfl) ?_
    refine lv_imul hx hb dX1_join_86 ?_
    refine lv_iload hx hb dX1_join_87 (lv_at hl 1 rfl) ?_
    refine lv_iadd hx hb dX1_join_89 ?_
    refine lv_topi (fun x_90_7 ex_90_7 => ?_)
    obtain rfl : x_90_7 = nI (1024 * q0 + w) := by rw [ex_90_7]; rw [pk_mul, nI_add]
    refine va_zald (i := nI (1024 * q0 + w)) hx hb hK hP 5 3 rfl rfl (vp_in_nI (by omega) (by decide)) dX1_join_90 ?_
    refine lv_topi (fun x_91_8 ex_91_8 => ?_)
    obtain rfl : x_91_8 = nb (tb q0 w) := by rw [ex_91_8]; rw [nI_clamp (show 1024 * q0 + w < 2 ^ 31 by omega)]; exact htb q0 w hq0 hlt
    refine lv_istore (lv' := [(7, .int (nb (tb q0 w))), (6, .int (nb (tb p0 w))), (5, .int (nI w)), (0, .ref (a 3)), (1, .int (nI tr)), (2, .int (nI kd)), (3, .int (nI p0)), (4, .int (nI q0))]) hx hb dX1_join_91 hl (by decide) rfl (fun ls hl => ?_)
    refine lv_aload_n hx hb dX1_join_93 rfl (lv_at hl 3 rfl) ?_
    refine va_get (D := (dC, dI)) (ci := 1) (v := .ref (a 6)) (C := RX1) (T := TX1) (N := 4) hx hb hts inX1_join hown hK hP 3 rfl rfl 3 (by decide) (hts (.fieldLink RX1 17 "NumberCircuitsModel" "made" "[I") (by decide +kernel)) (fun _ h9 => h9) rfl dX1_join_94 ?_
    refine lv_iload hx hb dX1_join_97 (lv_at hl 2 rfl) ?_
    obtain ⟨X, hX⟩ : ∃ X, tb p0 w = X := ⟨_, rfl⟩
    obtain ⟨Y, hY⟩ : ∃ Y, tb q0 w = Y := ⟨_, rfl⟩
    rw [hX, hY] at hl
    rcases (show kd = 0 ∨ kd = 1 ∨ kd = 2 ∨ kd = 3 by omega) with rfl | rfl | rfl | rfl
    · refine lv_iload_n hx hb dX1_join_99 rfl (lv_at hl 5 rfl) ?_
      refine lv_if_ne (tgt := 116) hx hb dX1_join_100 (by decide) (fun c => absurd c (by decide +kernel)) (fun _ => ?_)
      refine lv_iload hx hb dX1_join_103 (lv_at hl 1 rfl) ?_
      refine lv_if_eq (tgt := 158) hx hb dX1_join_105 (by decide) (fun d0 => ?_) (fun d0 => ?_)
      · refine lv_iconst (v := nI 0) hx hb dX1_join_158 (by decide +kernel) ?_
        refine va_iast (i := nI w) (x := nI 0) hx hb hK hP (nDA hinj) hS 6 4 rfl rfl (vp_in_nI (by omega) (by decide)) dX1_join_159 (fun H locs hP _ hS => ?_)
        have e_159_9 : upd (nF gm 0 w (mvB (myJ tb 0 p0 q0))) (nI w).toNatClampNeg (nI 0) = nF gm 0 (w + 1) (mvB (myJ tb 0 p0 q0)) := nF_up0 (by omega) (by show _ = nb (nj 0 (tb p0 w) (tb q0 w)); rw [hX, hY]; revert d0; cases X <;> cases Y <;> decide +kernel)
        have hP : va_P (dC, dI) vwCl (nW a k fn ft gn gt (nF gm 0 (w + 1) (mvB (myJ tb 0 p0 q0))) (nI 0) o) H := by rw [← e_159_9]; exact hP
        refine lv_iinc (v := nI (w + 1)) (lv' := [(5, .int (nI (w + 1))), (7, .int (nb (Y))), (6, .int (nb (X))), (0, .ref (a 3)), (1, .int (nI tr)), (2, .int (nI 0)), (3, .int (nI p0)), (4, .int (nI q0))]) hx hb dX1_join_160 hl (k := 2) rfl (nI_1 w) (by decide) rfl (fun ls hl => ?_)
        refine lv_goto (tgt := 54) hx hb dX1_join_163 (by decide) ?_
        exact ih hlt _ _ _ ⟨hP, hS, (lv_sub hl [0, 3, 4, 5, 6, 7] rfl)⟩
      · refine lv_iload hx hb dX1_join_108 (lv_at hl 0 rfl) ?_
        refine lv_if_eq (tgt := 158) hx hb dX1_join_110 (by decide) (fun d1 => ?_) (fun d1 => ?_)
        · refine lv_iconst (v := nI 0) hx hb dX1_join_158 (by decide +kernel) ?_
          refine va_iast (i := nI w) (x := nI 0) hx hb hK hP (nDA hinj) hS 6 4 rfl rfl (vp_in_nI (by omega) (by decide)) dX1_join_159 (fun H locs hP _ hS => ?_)
          have e_159_9 : upd (nF gm 0 w (mvB (myJ tb 0 p0 q0))) (nI w).toNatClampNeg (nI 0) = nF gm 0 (w + 1) (mvB (myJ tb 0 p0 q0)) := nF_up0 (by omega) (by show _ = nb (nj 0 (tb p0 w) (tb q0 w)); rw [hX, hY]; revert d0; revert d1; cases X <;> cases Y <;> decide +kernel)
          have hP : va_P (dC, dI) vwCl (nW a k fn ft gn gt (nF gm 0 (w + 1) (mvB (myJ tb 0 p0 q0))) (nI 0) o) H := by rw [← e_159_9]; exact hP
          refine lv_iinc (v := nI (w + 1)) (lv' := [(5, .int (nI (w + 1))), (7, .int (nb (Y))), (6, .int (nb (X))), (0, .ref (a 3)), (1, .int (nI tr)), (2, .int (nI 0)), (3, .int (nI p0)), (4, .int (nI q0))]) hx hb dX1_join_160 hl (k := 2) rfl (nI_1 w) (by decide) rfl (fun ls hl => ?_)
          refine lv_goto (tgt := 54) hx hb dX1_join_163 (by decide) ?_
          exact ih hlt _ _ _ ⟨hP, hS, (lv_sub hl [0, 3, 4, 5, 6, 7] rfl)⟩
        · refine lv_goto (tgt := 154) hx hb dX1_join_113 (by decide) ?_
          refine lv_iconst (v := nI 1) hx hb dX1_join_154 (by decide +kernel) ?_
          refine lv_goto (tgt := 159) hx hb dX1_join_155 (by decide) ?_
          refine va_iast (i := nI w) (x := nI 1) hx hb hK hP (nDA hinj) hS 6 4 rfl rfl (vp_in_nI (by omega) (by decide)) dX1_join_159 (fun H locs hP _ hS => ?_)
          have e_159_9 : upd (nF gm 0 w (mvB (myJ tb 0 p0 q0))) (nI w).toNatClampNeg (nI 1) = nF gm 0 (w + 1) (mvB (myJ tb 0 p0 q0)) := nF_up0 (by omega) (by show _ = nb (nj 0 (tb p0 w) (tb q0 w)); rw [hX, hY]; revert d0; revert d1; cases X <;> cases Y <;> decide +kernel)
          have hP : va_P (dC, dI) vwCl (nW a k fn ft gn gt (nF gm 0 (w + 1) (mvB (myJ tb 0 p0 q0))) (nI 0) o) H := by rw [← e_159_9]; exact hP
          refine lv_iinc (v := nI (w + 1)) (lv' := [(5, .int (nI (w + 1))), (7, .int (nb (Y))), (6, .int (nb (X))), (0, .ref (a 3)), (1, .int (nI tr)), (2, .int (nI 0)), (3, .int (nI p0)), (4, .int (nI q0))]) hx hb dX1_join_160 hl (k := 2) rfl (nI_1 w) (by decide) rfl (fun ls hl => ?_)
          refine lv_goto (tgt := 54) hx hb dX1_join_163 (by decide) ?_
          exact ih hlt _ _ _ ⟨hP, hS, (lv_sub hl [0, 3, 4, 5, 6, 7] rfl)⟩
    · refine lv_iload_n hx hb dX1_join_99 rfl (lv_at hl 5 rfl) ?_
      refine lv_if_ne (tgt := 116) hx hb dX1_join_100 (by decide) (fun _ => ?_) (fun c => absurd c (by decide +kernel))
      refine lv_iload_n hx hb dX1_join_116 rfl (lv_at hl 5 rfl) ?_
      refine lv_iconst (v := nI 1) hx hb dX1_join_117 (by decide +kernel) ?_
      refine lv_icmp_ne (tgt := 134) hx hb dX1_join_118 (by decide) (fun c => absurd c (by decide +kernel)) (fun _ => ?_)
      refine lv_iload hx hb dX1_join_121 (lv_at hl 1 rfl) ?_
      refine lv_if_ne (tgt := 154) hx hb dX1_join_123 (by decide) (fun d0 => ?_) (fun d0 => ?_)
      · refine lv_iconst (v := nI 1) hx hb dX1_join_154 (by decide +kernel) ?_
        refine lv_goto (tgt := 159) hx hb dX1_join_155 (by decide) ?_
        refine va_iast (i := nI w) (x := nI 1) hx hb hK hP (nDA hinj) hS 6 4 rfl rfl (vp_in_nI (by omega) (by decide)) dX1_join_159 (fun H locs hP _ hS => ?_)
        have e_159_9 : upd (nF gm 0 w (mvB (myJ tb 1 p0 q0))) (nI w).toNatClampNeg (nI 1) = nF gm 0 (w + 1) (mvB (myJ tb 1 p0 q0)) := nF_up0 (by omega) (by show _ = nb (nj 1 (tb p0 w) (tb q0 w)); rw [hX, hY]; revert d0; cases X <;> cases Y <;> decide +kernel)
        have hP : va_P (dC, dI) vwCl (nW a k fn ft gn gt (nF gm 0 (w + 1) (mvB (myJ tb 1 p0 q0))) (nI 0) o) H := by rw [← e_159_9]; exact hP
        refine lv_iinc (v := nI (w + 1)) (lv' := [(5, .int (nI (w + 1))), (7, .int (nb (Y))), (6, .int (nb (X))), (0, .ref (a 3)), (1, .int (nI tr)), (2, .int (nI 1)), (3, .int (nI p0)), (4, .int (nI q0))]) hx hb dX1_join_160 hl (k := 2) rfl (nI_1 w) (by decide) rfl (fun ls hl => ?_)
        refine lv_goto (tgt := 54) hx hb dX1_join_163 (by decide) ?_
        exact ih hlt _ _ _ ⟨hP, hS, (lv_sub hl [0, 3, 4, 5, 6, 7] rfl)⟩
      · refine lv_iload hx hb dX1_join_126 (lv_at hl 0 rfl) ?_
        refine lv_if_eq (tgt := 158) hx hb dX1_join_128 (by decide) (fun d1 => ?_) (fun d1 => ?_)
        · refine lv_iconst (v := nI 0) hx hb dX1_join_158 (by decide +kernel) ?_
          refine va_iast (i := nI w) (x := nI 0) hx hb hK hP (nDA hinj) hS 6 4 rfl rfl (vp_in_nI (by omega) (by decide)) dX1_join_159 (fun H locs hP _ hS => ?_)
          have e_159_9 : upd (nF gm 0 w (mvB (myJ tb 1 p0 q0))) (nI w).toNatClampNeg (nI 0) = nF gm 0 (w + 1) (mvB (myJ tb 1 p0 q0)) := nF_up0 (by omega) (by show _ = nb (nj 1 (tb p0 w) (tb q0 w)); rw [hX, hY]; revert d0; revert d1; cases X <;> cases Y <;> decide +kernel)
          have hP : va_P (dC, dI) vwCl (nW a k fn ft gn gt (nF gm 0 (w + 1) (mvB (myJ tb 1 p0 q0))) (nI 0) o) H := by rw [← e_159_9]; exact hP
          refine lv_iinc (v := nI (w + 1)) (lv' := [(5, .int (nI (w + 1))), (7, .int (nb (Y))), (6, .int (nb (X))), (0, .ref (a 3)), (1, .int (nI tr)), (2, .int (nI 1)), (3, .int (nI p0)), (4, .int (nI q0))]) hx hb dX1_join_160 hl (k := 2) rfl (nI_1 w) (by decide) rfl (fun ls hl => ?_)
          refine lv_goto (tgt := 54) hx hb dX1_join_163 (by decide) ?_
          exact ih hlt _ _ _ ⟨hP, hS, (lv_sub hl [0, 3, 4, 5, 6, 7] rfl)⟩
        · refine lv_goto (tgt := 154) hx hb dX1_join_131 (by decide) ?_
          refine lv_iconst (v := nI 1) hx hb dX1_join_154 (by decide +kernel) ?_
          refine lv_goto (tgt := 159) hx hb dX1_join_155 (by decide) ?_
          refine va_iast (i := nI w) (x := nI 1) hx hb hK hP (nDA hinj) hS 6 4 rfl rfl (vp_in_nI (by omega) (by decide)) dX1_join_159 (fun H locs hP _ hS => ?_)
          have e_159_9 : upd (nF gm 0 w (mvB (myJ tb 1 p0 q0))) (nI w).toNatClampNeg (nI 1) = nF gm 0 (w + 1) (mvB (myJ tb 1 p0 q0)) := nF_up0 (by omega) (by show _ = nb (nj 1 (tb p0 w) (tb q0 w)); rw [hX, hY]; revert d0; revert d1; cases X <;> cases Y <;> decide +kernel)
          have hP : va_P (dC, dI) vwCl (nW a k fn ft gn gt (nF gm 0 (w + 1) (mvB (myJ tb 1 p0 q0))) (nI 0) o) H := by rw [← e_159_9]; exact hP
          refine lv_iinc (v := nI (w + 1)) (lv' := [(5, .int (nI (w + 1))), (7, .int (nb (Y))), (6, .int (nb (X))), (0, .ref (a 3)), (1, .int (nI tr)), (2, .int (nI 1)), (3, .int (nI p0)), (4, .int (nI q0))]) hx hb dX1_join_160 hl (k := 2) rfl (nI_1 w) (by decide) rfl (fun ls hl => ?_)
          refine lv_goto (tgt := 54) hx hb dX1_join_163 (by decide) ?_
          exact ih hlt _ _ _ ⟨hP, hS, (lv_sub hl [0, 3, 4, 5, 6, 7] rfl)⟩
    · refine lv_iload_n hx hb dX1_join_99 rfl (lv_at hl 5 rfl) ?_
      refine lv_if_ne (tgt := 116) hx hb dX1_join_100 (by decide) (fun _ => ?_) (fun c => absurd c (by decide +kernel))
      refine lv_iload_n hx hb dX1_join_116 rfl (lv_at hl 5 rfl) ?_
      refine lv_iconst (v := nI 1) hx hb dX1_join_117 (by decide +kernel) ?_
      refine lv_icmp_ne (tgt := 134) hx hb dX1_join_118 (by decide) (fun _ => ?_) (fun c => absurd c (by decide +kernel))
      refine lv_iload_n hx hb dX1_join_134 rfl (lv_at hl 5 rfl) ?_
      refine lv_iconst (v := nI 2) hx hb dX1_join_135 (by decide +kernel) ?_
      refine lv_icmp_ne (tgt := 149) hx hb dX1_join_136 (by decide) (fun c => absurd c (by decide +kernel)) (fun _ => ?_)
      refine lv_iload hx hb dX1_join_139 (lv_at hl 1 rfl) ?_
      refine lv_iload hx hb dX1_join_141 (lv_at hl 0 rfl) ?_
      refine lv_icmp_eq (tgt := 158) hx hb dX1_join_143 (by decide) (fun d0 => ?_) (fun d0 => ?_)
      · refine lv_iconst (v := nI 0) hx hb dX1_join_158 (by decide +kernel) ?_
        refine va_iast (i := nI w) (x := nI 0) hx hb hK hP (nDA hinj) hS 6 4 rfl rfl (vp_in_nI (by omega) (by decide)) dX1_join_159 (fun H locs hP _ hS => ?_)
        have e_159_9 : upd (nF gm 0 w (mvB (myJ tb 2 p0 q0))) (nI w).toNatClampNeg (nI 0) = nF gm 0 (w + 1) (mvB (myJ tb 2 p0 q0)) := nF_up0 (by omega) (by show _ = nb (nj 2 (tb p0 w) (tb q0 w)); rw [hX, hY]; revert d0; cases X <;> cases Y <;> decide +kernel)
        have hP : va_P (dC, dI) vwCl (nW a k fn ft gn gt (nF gm 0 (w + 1) (mvB (myJ tb 2 p0 q0))) (nI 0) o) H := by rw [← e_159_9]; exact hP
        refine lv_iinc (v := nI (w + 1)) (lv' := [(5, .int (nI (w + 1))), (7, .int (nb (Y))), (6, .int (nb (X))), (0, .ref (a 3)), (1, .int (nI tr)), (2, .int (nI 2)), (3, .int (nI p0)), (4, .int (nI q0))]) hx hb dX1_join_160 hl (k := 2) rfl (nI_1 w) (by decide) rfl (fun ls hl => ?_)
        refine lv_goto (tgt := 54) hx hb dX1_join_163 (by decide) ?_
        exact ih hlt _ _ _ ⟨hP, hS, (lv_sub hl [0, 3, 4, 5, 6, 7] rfl)⟩
      · refine lv_goto (tgt := 154) hx hb dX1_join_146 (by decide) ?_
        refine lv_iconst (v := nI 1) hx hb dX1_join_154 (by decide +kernel) ?_
        refine lv_goto (tgt := 159) hx hb dX1_join_155 (by decide) ?_
        refine va_iast (i := nI w) (x := nI 1) hx hb hK hP (nDA hinj) hS 6 4 rfl rfl (vp_in_nI (by omega) (by decide)) dX1_join_159 (fun H locs hP _ hS => ?_)
        have e_159_9 : upd (nF gm 0 w (mvB (myJ tb 2 p0 q0))) (nI w).toNatClampNeg (nI 1) = nF gm 0 (w + 1) (mvB (myJ tb 2 p0 q0)) := nF_up0 (by omega) (by show _ = nb (nj 2 (tb p0 w) (tb q0 w)); rw [hX, hY]; revert d0; cases X <;> cases Y <;> decide +kernel)
        have hP : va_P (dC, dI) vwCl (nW a k fn ft gn gt (nF gm 0 (w + 1) (mvB (myJ tb 2 p0 q0))) (nI 0) o) H := by rw [← e_159_9]; exact hP
        refine lv_iinc (v := nI (w + 1)) (lv' := [(5, .int (nI (w + 1))), (7, .int (nb (Y))), (6, .int (nb (X))), (0, .ref (a 3)), (1, .int (nI tr)), (2, .int (nI 2)), (3, .int (nI p0)), (4, .int (nI q0))]) hx hb dX1_join_160 hl (k := 2) rfl (nI_1 w) (by decide) rfl (fun ls hl => ?_)
        refine lv_goto (tgt := 54) hx hb dX1_join_163 (by decide) ?_
        exact ih hlt _ _ _ ⟨hP, hS, (lv_sub hl [0, 3, 4, 5, 6, 7] rfl)⟩
    · refine lv_iload_n hx hb dX1_join_99 rfl (lv_at hl 5 rfl) ?_
      refine lv_if_ne (tgt := 116) hx hb dX1_join_100 (by decide) (fun _ => ?_) (fun c => absurd c (by decide +kernel))
      refine lv_iload_n hx hb dX1_join_116 rfl (lv_at hl 5 rfl) ?_
      refine lv_iconst (v := nI 1) hx hb dX1_join_117 (by decide +kernel) ?_
      refine lv_icmp_ne (tgt := 134) hx hb dX1_join_118 (by decide) (fun _ => ?_) (fun c => absurd c (by decide +kernel))
      refine lv_iload_n hx hb dX1_join_134 rfl (lv_at hl 5 rfl) ?_
      refine lv_iconst (v := nI 2) hx hb dX1_join_135 (by decide +kernel) ?_
      refine lv_icmp_ne (tgt := 149) hx hb dX1_join_136 (by decide) (fun _ => ?_) (fun c => absurd c (by decide +kernel))
      refine lv_iload hx hb dX1_join_149 (lv_at hl 1 rfl) ?_
      refine lv_if_ne (tgt := 158) hx hb dX1_join_151 (by decide) (fun d0 => ?_) (fun d0 => ?_)
      · refine lv_iconst (v := nI 0) hx hb dX1_join_158 (by decide +kernel) ?_
        refine va_iast (i := nI w) (x := nI 0) hx hb hK hP (nDA hinj) hS 6 4 rfl rfl (vp_in_nI (by omega) (by decide)) dX1_join_159 (fun H locs hP _ hS => ?_)
        have e_159_9 : upd (nF gm 0 w (mvB (myJ tb 3 p0 q0))) (nI w).toNatClampNeg (nI 0) = nF gm 0 (w + 1) (mvB (myJ tb 3 p0 q0)) := nF_up0 (by omega) (by show _ = nb (nj 3 (tb p0 w) (tb q0 w)); rw [hX, hY]; revert d0; cases X <;> cases Y <;> decide +kernel)
        have hP : va_P (dC, dI) vwCl (nW a k fn ft gn gt (nF gm 0 (w + 1) (mvB (myJ tb 3 p0 q0))) (nI 0) o) H := by rw [← e_159_9]; exact hP
        refine lv_iinc (v := nI (w + 1)) (lv' := [(5, .int (nI (w + 1))), (7, .int (nb (Y))), (6, .int (nb (X))), (0, .ref (a 3)), (1, .int (nI tr)), (2, .int (nI 3)), (3, .int (nI p0)), (4, .int (nI q0))]) hx hb dX1_join_160 hl (k := 2) rfl (nI_1 w) (by decide) rfl (fun ls hl => ?_)
        refine lv_goto (tgt := 54) hx hb dX1_join_163 (by decide) ?_
        exact ih hlt _ _ _ ⟨hP, hS, (lv_sub hl [0, 3, 4, 5, 6, 7] rfl)⟩
      · refine lv_iconst (v := nI 1) hx hb dX1_join_154 (by decide +kernel) ?_
        refine lv_goto (tgt := 159) hx hb dX1_join_155 (by decide) ?_
        refine va_iast (i := nI w) (x := nI 1) hx hb hK hP (nDA hinj) hS 6 4 rfl rfl (vp_in_nI (by omega) (by decide)) dX1_join_159 (fun H locs hP _ hS => ?_)
        have e_159_9 : upd (nF gm 0 w (mvB (myJ tb 3 p0 q0))) (nI w).toNatClampNeg (nI 1) = nF gm 0 (w + 1) (mvB (myJ tb 3 p0 q0)) := nF_up0 (by omega) (by show _ = nb (nj 3 (tb p0 w) (tb q0 w)); rw [hX, hY]; revert d0; cases X <;> cases Y <;> decide +kernel)
        have hP : va_P (dC, dI) vwCl (nW a k fn ft gn gt (nF gm 0 (w + 1) (mvB (myJ tb 3 p0 q0))) (nI 0) o) H := by rw [← e_159_9]; exact hP
        refine lv_iinc (v := nI (w + 1)) (lv' := [(5, .int (nI (w + 1))), (7, .int (nb (Y))), (6, .int (nb (X))), (0, .ref (a 3)), (1, .int (nI tr)), (2, .int (nI 3)), (3, .int (nI p0)), (4, .int (nI q0))]) hx hb dX1_join_160 hl (k := 2) rfl (nI_1 w) (by decide) rfl (fun ls hl => ?_)
        refine lv_goto (tgt := 54) hx hb dX1_join_163 (by decide) ?_
        exact ih hlt _ _ _ ⟨hP, hS, (lv_sub hl [0, 3, 4, 5, 6, 7] rfl)⟩
set_option maxHeartbeats 4000000 in
set_option maxRecDepth 100000 in
theorem m_value (l : Launch) (dC : Nat → ClassId) (dI : Nat → Nat → Nat) (a : Nat → Nat) (k : Nat → ClassId) (fn ft gn gt gm : Nat → Int32) (fl : Int32) (o : Nat → Int64) (hinj : nInj a) (sl wy : Nat) (hsl : sl < 8) (hwy : wy < 1024) : Met l yX1_value wsX1_value ({ frames := 1, cells := 0, slots := 0, locals := 40 }) (va_Pc [.ref (a 3), .int (nI sl), .int (nI wy)] (nPw dC dI a k fn ft gn gt gm fl o)) (nQi (gn (1024 * sl + wy)) (nPw dC dI a k fn ft gn gt gm (nI 0) o) a) 0 0 (nA0 a) := by
  refine Met.ofW (cc := cX1_value) (maxL := 3) (ret := (some .int)) (by decide) rfl ?_
  intro p e s m args below meth c s₁ B hml hv
  obtain ⟨rfl, hP, hK⟩ := hv
  have hx := B.exec
  have hb := B.bytes
  have hr := B.returns
  have hts := atoms_spec (ws := wsX1_value) B.pre
  have hown : s.vm.findClass RX1 = some m.cls := findClass_of_methodNamed B.named
  have hlocks := B.notSynchronized
  have hS : va_S (nA0 a) s.heap s.heap [] := va_S.rf
  have hl := lv_entry ([.ref (a 3), .int (nI sl), .int (nI wy)]) (n := 3) (Nat.le_of_ble_eq_true rfl)
  rw [lg_entry_eq]
  generalize (lg_sl ([.ref (a 3), .int (nI sl), .int (nI wy)]) ++ List.replicate (3 - (lg_sl ([.ref (a 3), .int (nI sl), .int (nI wy)])).length) Slot.unset).toArray = ls at hl ⊢
  have hl : lv_has ls 3 [(0, .ref (a 3)), (1, .int (nI sl)), (2, .int (nI wy))] := hl
  refine lv_aload_n hx hb dX1_value_0 rfl (lv_at hl 0 rfl) ?_
  refine lv_iconst (v := nI 0) hx hb dX1_value_1 (by decide +kernel) ?_
  refine va_put (D := (dC, dI)) (ci := 1) (v := .int (nI 0)) (ty := .int) (C := RX1) (T := TX1) (N := 4) hx hb hts inX1_value tyX1 tyX1_ok nmX1 hown hK hP (nDA hinj) hS 3 rfl rfl 0 (by decide) (hts (.fieldLink RX1 20 "NumberCircuitsModel" "failed" "I") (by decide +kernel)) (fun _ h9 => h9) rfl (by decide +kernel) rfl rfl (Nat.le_of_ble_eq_true rfl) dX1_value_2 (fun H locs hP _ hS => ?_)
  have hP : va_P (dC, dI) vwCl (nW a k fn ft gn gt gm (nI 0) o) H := hP
  refine lv_aload_n hx hb dX1_value_5 rfl (lv_at hl 0 rfl) ?_
  refine lv_iload_n hx hb dX1_value_6 rfl (lv_at hl 1 rfl) ?_
  refine lv_bipush (v := nI 8) hx hb dX1_value_7 (by decide +kernel) ?_
  refine vp_callSi (W.runV (As := [.int (nI sl), .int (nI 8)]) (rest := []) ⟨hx, hb, hml, hown, hts⟩ (m_out l dC dI a k fn ft gn gt gm (nI 0) o (nI sl) 8) (cwV 2 hts gX1_value_X1_out rfl rfl rfl (by decide +kernel) ⟨Nat.le_of_ble_eq_true rfl, Nat.le_of_ble_eq_true rfl⟩) (nPreV hP hK (va_recv hK hP (ci := 1) (q0 := 3) rfl rfl)) rfl rfl hl.1 rfl (lv_room (Nat.le_of_ble_eq_true rfl)) dX1_value_9 ⟨Nat.zero_le _, Nat.zero_le _⟩) (fun r_9_1 er_9_1 => ?_)
  rw [nO_in (by omega) (by decide)] at er_9_1
  subst er_9_1
  refine lv_if_ne (tgt := 26) hx hb dX1_value_12 (by decide) (fun c => absurd c (by decide +kernel)) (fun _ => ?_)
  refine lv_aload_n hx hb dX1_value_15 rfl (lv_at hl 0 rfl) ?_
  refine lv_iload_n hx hb dX1_value_16 rfl (lv_at hl 2 rfl) ?_
  refine lv_sipush (v := nI 1024) hx hb dX1_value_17 (by decide +kernel) ?_
  refine vp_callSi (W.runV (As := [.int (nI wy), .int (nI 1024)]) (rest := []) ⟨hx, hb, hml, hown, hts⟩ (m_out l dC dI a k fn ft gn gt gm (nI 0) o (nI wy) 1024) (cwV 2 hts gX1_value_X1_out rfl rfl rfl (by decide +kernel) ⟨Nat.le_of_ble_eq_true rfl, Nat.le_of_ble_eq_true rfl⟩) (nPreV hP hK (va_recv hK hP (ci := 1) (q0 := 3) rfl rfl)) rfl rfl hl.1 rfl (lv_room (Nat.le_of_ble_eq_true rfl)) dX1_value_20 ⟨Nat.zero_le _, Nat.zero_le _⟩) (fun r_20_2 er_20_2 => ?_)
  rw [nO_in (by omega) (by decide)] at er_20_2
  subst er_20_2
  refine lv_if_eq (tgt := 32) hx hb dX1_value_23 (by decide) (fun _ => ?_) (fun c => absurd c (by decide +kernel))
  refine lv_aload_n hx hb dX1_value_32 rfl (lv_at hl 0 rfl) ?_
  refine va_get (D := (dC, dI)) (ci := 1) (v := .ref (a 4)) (C := RX1) (T := TX1) (N := 4) hx hb hts inX1_value hown hK hP 3 rfl rfl 1 (by decide) (hts (.fieldLink RX1 7 "NumberCircuitsModel" "numbers" "[I") (by decide +kernel)) (fun _ h9 => h9) rfl dX1_value_33 ?_
  refine lv_sipush (v := nI 1024) hx hb dX1_value_36 (by decide +kernel) ?_
  refine lv_iload_n hx hb dX1_value_39 rfl (lv_at hl 1 rfl) ?_
  refine lv_imul hx hb dX1_value_40 ?_
  refine lv_iload_n hx hb dX1_value_41 rfl (lv_at hl 2 rfl) ?_
  refine lv_iadd hx hb dX1_value_42 ?_
  refine lv_topi (fun x_43_3 ex_43_3 => ?_)
  obtain rfl : x_43_3 = nI (1024 * sl + wy) := by rw [ex_43_3]; rw [pk_mul, nI_add]
  refine va_iald (i := nI (1024 * sl + wy)) hx hb hK hP 4 2 rfl rfl (vp_in_nI (by omega) (by decide)) dX1_value_43 ?_
  refine lv_topi (fun x_44_4 ex_44_4 => ?_)
  obtain rfl : x_44_4 = gn (1024 * sl + wy) := by rw [ex_44_4]; rw [nI_clamp (show 1024 * sl + wy < 2 ^ 31 by omega)]
  exact W.iret hx hb hr (fun t ht hW => ⟨⟨_, (), rfl, rfl, by rw [ht]; exact hP, va_K.moved hW.alike hK⟩, hS.F ht⟩) hS.2.2 dX1_value_44
set_option maxHeartbeats 4000000 in
set_option maxRecDepth 100000 in
theorem m_way (l : Launch) (dC : Nat → ClassId) (dI : Nat → Nat → Nat) (a : Nat → Nat) (k : Nat → ClassId) (fn ft gn gt gm : Nat → Int32) (fl : Int32) (o : Nat → Int64) (hinj : nInj a) (tb : Nat → Nat → Bool) (htb : ∀ t w : Nat, t < 8 → w < 1024 → gt (1024 * t + w) = nb (tb t w)) (tr w0 : Nat) (htr : tr < 8) (hw0 : w0 < 1024) (hy0 : tb tr w0 = true) (hn0 : ∀ j, j < w0 → tb tr j = false) : Met l yX1_way wsX1_way ({ frames := 1, cells := 0, slots := 0, locals := 40 }) (va_Pc [.ref (a 3), .int (nI tr)] (nPw dC dI a k fn ft gn gt gm fl o)) (nQi (nI w0) (nPw dC dI a k fn ft gn gt gm (nI 0) o) a) 0 0 (nA0 a) := by
  refine Met.ofW (cc := cX1_way) (maxL := 3) (ret := (some .int)) (by decide) rfl ?_
  intro p e s m args below meth c s₁ B hml hv
  obtain ⟨rfl, hP, hK⟩ := hv
  have hx := B.exec
  have hb := B.bytes
  have hr := B.returns
  have hts := atoms_spec (ws := wsX1_way) B.pre
  have hown : s.vm.findClass RX1 = some m.cls := findClass_of_methodNamed B.named
  have hlocks := B.notSynchronized
  have hS : va_S (nA0 a) s.heap s.heap [] := va_S.rf
  have hl := lv_entry ([.ref (a 3), .int (nI tr)]) (n := 3) (Nat.le_of_ble_eq_true rfl)
  rw [lg_entry_eq]
  generalize (lg_sl ([.ref (a 3), .int (nI tr)]) ++ List.replicate (3 - (lg_sl ([.ref (a 3), .int (nI tr)])).length) Slot.unset).toArray = ls at hl ⊢
  have hl : lv_has ls 3 [(0, .ref (a 3)), (1, .int (nI tr))] := hl
  refine lv_aload_n hx hb dX1_way_0 rfl (lv_at hl 0 rfl) ?_
  refine lv_iconst (v := nI 0) hx hb dX1_way_1 (by decide +kernel) ?_
  refine va_put (D := (dC, dI)) (ci := 1) (v := .int (nI 0)) (ty := .int) (C := RX1) (T := TX1) (N := 4) hx hb hts inX1_way tyX1 tyX1_ok nmX1 hown hK hP (nDA hinj) hS 3 rfl rfl 0 (by decide) (hts (.fieldLink RX1 20 "NumberCircuitsModel" "failed" "I") (by decide +kernel)) (fun _ h9 => h9) rfl (by decide +kernel) rfl rfl (Nat.le_of_ble_eq_true rfl) dX1_way_2 (fun H locs hP _ hS => ?_)
  have hP : va_P (dC, dI) vwCl (nW a k fn ft gn gt gm (nI 0) o) H := hP
  refine lv_aload_n hx hb dX1_way_5 rfl (lv_at hl 0 rfl) ?_
  refine lv_iload_n hx hb dX1_way_6 rfl (lv_at hl 1 rfl) ?_
  refine lv_bipush (v := nI 8) hx hb dX1_way_7 (by decide +kernel) ?_
  refine vp_callSi (W.runV (As := [.int (nI tr), .int (nI 8)]) (rest := []) ⟨hx, hb, hml, hown, hts⟩ (m_out l dC dI a k fn ft gn gt gm (nI 0) o (nI tr) 8) (cwV 2 hts gX1_way_X1_out rfl rfl rfl (by decide +kernel) ⟨Nat.le_of_ble_eq_true rfl, Nat.le_of_ble_eq_true rfl⟩) (nPreV hP hK (va_recv hK hP (ci := 1) (q0 := 3) rfl rfl)) rfl rfl hl.1 rfl (lv_room (Nat.le_of_ble_eq_true rfl)) dX1_way_9 ⟨Nat.zero_le _, Nat.zero_le _⟩) (fun r_9_1 er_9_1 => ?_)
  rw [nO_in (by omega) (by decide)] at er_9_1
  subst er_9_1
  refine lv_if_eq (tgt := 21) hx hb dX1_way_12 (by decide) (fun _ => ?_) (fun c => absurd c (by decide +kernel))
  refine lv_iconst (v := nI 0) hx hb dX1_way_21 (by decide +kernel) ?_
  refine lv_istore_n (lv' := [(2, .int (nI 0)), (0, .ref (a 3)), (1, .int (nI tr))]) hx hb dX1_way_22 rfl hl (by decide) rfl (fun ls hl => ?_)
  refine nc_loop 1024 (fun w H locs ls => va_P (dC, dI) vwCl (nW a k fn ft gn gt gm (nI 0) o) H ∧ va_S (nA0 a) s.heap H locs ∧ (w ≤ w0) ∧ lv_has ls 3 [(2, .int (nI w)), (0, .ref (a 3)), (1, .int (nI tr))]) ⟨hP, hS, Nat.zero_le _, (lv_sub hl [0, 1, 2] rfl)⟩ ?_
  intro w H locs ls hw hI ih
  obtain ⟨hP, hS, hwl, hl⟩ := hI
  refine lv_iload_n hx hb dX1_way_23 rfl (lv_at hl 0 rfl) ?_
  refine lv_sipush (v := nI 1024) hx hb dX1_way_24 (by decide +kernel) ?_
  refine lv_icmp_ge (tgt := 53) hx hb dX1_way_27 (by decide) (fun c1 => ?_) (fun c1 => ?_)
  · exact absurd (nHi (by decide) hw c1) (by omega)
  · have hlt : w < 1024 := nLo (by decide) hw c1
    refine lv_aload_n hx hb dX1_way_30 rfl (lv_at hl 1 rfl) ?_
    refine va_get (D := (dC, dI)) (ci := 1) (v := .ref (a 5)) (C := RX1) (T := TX1) (N := 4) hx hb hts inX1_way hown hK hP 3 rfl rfl 2 (by decide) (hts (.fieldLink RX1 13 "NumberCircuitsModel" "truths" "[Z") (by decide +kernel)) (fun _ h9 => h9) rfl dX1_way_31 ?_
    refine lv_sipush (v := nI 1024) hx hb dX1_way_34 (by decide +kernel) ?_
    refine lv_iload_n hx hb dX1_way_37 rfl (lv_at hl 2 rfl) ?_
    refine lv_imul hx hb dX1_way_38 ?_
    refine lv_iload_n hx hb dX1_way_39 rfl (lv_at hl 0 rfl) ?_
    refine lv_iadd hx hb dX1_way_40 ?_
    refine lv_topi (fun x_41_2 ex_41_2 => ?_)
    obtain rfl : x_41_2 = nI (1024 * tr + w) := by rw [ex_41_2]; rw [pk_mul, nI_add]
    refine va_zald (i := nI (1024 * tr + w)) hx hb hK hP 5 3 rfl rfl (vp_in_nI (by omega) (by decide)) dX1_way_41 ?_
    refine lv_topi (fun x_42_3 ex_42_3 => ?_)
    obtain rfl : x_42_3 = nb (tb tr w) := by rw [ex_42_3]; rw [nI_clamp (show 1024 * tr + w < 2 ^ 31 by omega)]; exact htb tr w htr hlt
    refine lv_if_eq (tgt := 47) hx hb dX1_way_42 (by decide) (fun c2 => ?_) (fun c2 => ?_)
    · have hne : w ≠ w0 := fun h => by rw [h, hy0] at c2; exact absurd c2 (by decide +kernel)
      refine lv_iinc (v := nI (w + 1)) (lv' := [(2, .int (nI (w + 1))), (0, .ref (a 3)), (1, .int (nI tr))]) hx hb dX1_way_47 hl (k := 0) rfl (nI_1 w) (by decide) rfl (fun ls hl => ?_)
      refine lv_goto (tgt := 23) hx hb dX1_way_50 (by decide) ?_
      exact ih hlt _ _ _ ⟨hP, hS, (by omega), (lv_sub hl [0, 1, 2] rfl)⟩
    · obtain rfl : w = w0 := by
        rcases Nat.lt_or_ge w w0 with q | q
        · rw [hn0 w q] at c2; exact absurd (by decide +kernel) c2
        · omega
      refine lv_iload_n hx hb dX1_way_45 rfl (lv_at hl 0 rfl) ?_
      exact W.iret hx hb hr (fun t ht hW => ⟨⟨_, (), rfl, rfl, by rw [ht]; exact hP, va_K.moved hW.alike hK⟩, hS.F ht⟩) hS.2.2 dX1_way_46
set_option maxHeartbeats 4000000 in
set_option maxRecDepth 100000 in
theorem m_wayN (l : Launch) (dC : Nat → ClassId) (dI : Nat → Nat → Nat) (a : Nat → Nat) (k : Nat → ClassId) (fn ft gn gt gm : Nat → Int32) (fl : Int32) (o : Nat → Int64) (hinj : nInj a) (tb : Nat → Nat → Bool) (htb : ∀ t w : Nat, t < 8 → w < 1024 → gt (1024 * t + w) = nb (tb t w)) (tr : Nat) (htr : tr < 8) (hn0 : ∀ j, j < 1024 → tb tr j = false) : Met l yX1_way wsX1_way ({ frames := 1, cells := 0, slots := 0, locals := 40 }) (va_Pc [.ref (a 3), .int (nI tr)] (nPw dC dI a k fn ft gn gt gm fl o)) (nQi (nI 0) (nPw dC dI a k fn ft gn gt gm (nI 2) o) a) 0 0 (nA0 a) := by
  refine Met.ofW (cc := cX1_way) (maxL := 3) (ret := (some .int)) (by decide) rfl ?_
  intro p e s m args below meth c s₁ B hml hv
  obtain ⟨rfl, hP, hK⟩ := hv
  have hx := B.exec
  have hb := B.bytes
  have hr := B.returns
  have hts := atoms_spec (ws := wsX1_way) B.pre
  have hown : s.vm.findClass RX1 = some m.cls := findClass_of_methodNamed B.named
  have hlocks := B.notSynchronized
  have hS : va_S (nA0 a) s.heap s.heap [] := va_S.rf
  have hl := lv_entry ([.ref (a 3), .int (nI tr)]) (n := 3) (Nat.le_of_ble_eq_true rfl)
  rw [lg_entry_eq]
  generalize (lg_sl ([.ref (a 3), .int (nI tr)]) ++ List.replicate (3 - (lg_sl ([.ref (a 3), .int (nI tr)])).length) Slot.unset).toArray = ls at hl ⊢
  have hl : lv_has ls 3 [(0, .ref (a 3)), (1, .int (nI tr))] := hl
  refine lv_aload_n hx hb dX1_way_0 rfl (lv_at hl 0 rfl) ?_
  refine lv_iconst (v := nI 0) hx hb dX1_way_1 (by decide +kernel) ?_
  refine va_put (D := (dC, dI)) (ci := 1) (v := .int (nI 0)) (ty := .int) (C := RX1) (T := TX1) (N := 4) hx hb hts inX1_way tyX1 tyX1_ok nmX1 hown hK hP (nDA hinj) hS 3 rfl rfl 0 (by decide) (hts (.fieldLink RX1 20 "NumberCircuitsModel" "failed" "I") (by decide +kernel)) (fun _ h9 => h9) rfl (by decide +kernel) rfl rfl (Nat.le_of_ble_eq_true rfl) dX1_way_2 (fun H locs hP _ hS => ?_)
  have hP : va_P (dC, dI) vwCl (nW a k fn ft gn gt gm (nI 0) o) H := hP
  refine lv_aload_n hx hb dX1_way_5 rfl (lv_at hl 0 rfl) ?_
  refine lv_iload_n hx hb dX1_way_6 rfl (lv_at hl 1 rfl) ?_
  refine lv_bipush (v := nI 8) hx hb dX1_way_7 (by decide +kernel) ?_
  refine vp_callSi (W.runV (As := [.int (nI tr), .int (nI 8)]) (rest := []) ⟨hx, hb, hml, hown, hts⟩ (m_out l dC dI a k fn ft gn gt gm (nI 0) o (nI tr) 8) (cwV 2 hts gX1_way_X1_out rfl rfl rfl (by decide +kernel) ⟨Nat.le_of_ble_eq_true rfl, Nat.le_of_ble_eq_true rfl⟩) (nPreV hP hK (va_recv hK hP (ci := 1) (q0 := 3) rfl rfl)) rfl rfl hl.1 rfl (lv_room (Nat.le_of_ble_eq_true rfl)) dX1_way_9 ⟨Nat.zero_le _, Nat.zero_le _⟩) (fun r_9_1 er_9_1 => ?_)
  rw [nO_in (by omega) (by decide)] at er_9_1
  subst er_9_1
  refine lv_if_eq (tgt := 21) hx hb dX1_way_12 (by decide) (fun _ => ?_) (fun c => absurd c (by decide +kernel))
  refine lv_iconst (v := nI 0) hx hb dX1_way_21 (by decide +kernel) ?_
  refine lv_istore_n (lv' := [(2, .int (nI 0)), (0, .ref (a 3)), (1, .int (nI tr))]) hx hb dX1_way_22 rfl hl (by decide) rfl (fun ls hl => ?_)
  refine nc_loop 1024 (fun w H locs ls => va_P (dC, dI) vwCl (nW a k fn ft gn gt gm (nI 0) o) H ∧ va_S (nA0 a) s.heap H locs ∧ lv_has ls 3 [(2, .int (nI w)), (0, .ref (a 3)), (1, .int (nI tr))]) ⟨hP, hS, (lv_sub hl [0, 1, 2] rfl)⟩ ?_
  intro w H locs ls hw hI ih
  obtain ⟨hP, hS, hl⟩ := hI
  refine lv_iload_n hx hb dX1_way_23 rfl (lv_at hl 0 rfl) ?_
  refine lv_sipush (v := nI 1024) hx hb dX1_way_24 (by decide +kernel) ?_
  refine lv_icmp_ge (tgt := 53) hx hb dX1_way_27 (by decide) (fun c1 => ?_) (fun c1 => ?_)
  · refine lv_aload_n hx hb dX1_way_53 rfl (lv_at hl 1 rfl) ?_
    refine lv_iconst (v := nI 2) hx hb dX1_way_54 (by decide +kernel) ?_
    refine va_calli (va_runV (As := [.int (nI 2)]) (rest := []) ⟨hx, hb, hml, hown, hts⟩ (m_fail l dC dI a k fn ft gn gt gm (nI 0) o hinj (nI 2)) (cwV 1 hts gX1_way_X1_fail rfl rfl rfl (by decide +kernel) ⟨Nat.le_of_ble_eq_true rfl, Nat.le_of_ble_eq_true rfl⟩) (nPreV hP hK (va_recv hK hP (ci := 1) (q0 := 3) rfl rfl)) rfl rfl hl.1 rfl (lv_room (Nat.le_of_ble_eq_true rfl)) dX1_way_55 ⟨Nat.zero_le _, Nat.zero_le _⟩) hS (fun _ _ h => h) (fun _ h => h) (fun r_55_2 _ t H locs ht hvm er_55_2 hB _ _ hS => ?_)
    subst er_55_2
    have hP : va_P (dC, dI) vwCl (nW a k fn ft gn gt gm (nI 2) o) H := by rw [← ht]; exact hB.1
    exact W.iret hx hb hr (fun t ht hW => ⟨⟨_, (), rfl, rfl, by rw [ht]; exact hP, va_K.moved hW.alike hK⟩, hS.F ht⟩) hS.2.2 dX1_way_58
  · have hlt : w < 1024 := nLo (by decide) hw c1
    refine lv_aload_n hx hb dX1_way_30 rfl (lv_at hl 1 rfl) ?_
    refine va_get (D := (dC, dI)) (ci := 1) (v := .ref (a 5)) (C := RX1) (T := TX1) (N := 4) hx hb hts inX1_way hown hK hP 3 rfl rfl 2 (by decide) (hts (.fieldLink RX1 13 "NumberCircuitsModel" "truths" "[Z") (by decide +kernel)) (fun _ h9 => h9) rfl dX1_way_31 ?_
    refine lv_sipush (v := nI 1024) hx hb dX1_way_34 (by decide +kernel) ?_
    refine lv_iload_n hx hb dX1_way_37 rfl (lv_at hl 2 rfl) ?_
    refine lv_imul hx hb dX1_way_38 ?_
    refine lv_iload_n hx hb dX1_way_39 rfl (lv_at hl 0 rfl) ?_
    refine lv_iadd hx hb dX1_way_40 ?_
    refine lv_topi (fun x_41_2 ex_41_2 => ?_)
    obtain rfl : x_41_2 = nI (1024 * tr + w) := by rw [ex_41_2]; rw [pk_mul, nI_add]
    refine va_zald (i := nI (1024 * tr + w)) hx hb hK hP 5 3 rfl rfl (vp_in_nI (by omega) (by decide)) dX1_way_41 ?_
    refine lv_topi (fun x_42_3 ex_42_3 => ?_)
    obtain rfl : x_42_3 = nb (tb tr w) := by rw [ex_42_3]; rw [nI_clamp (show 1024 * tr + w < 2 ^ 31 by omega)]; exact htb tr w htr hlt
    refine lv_if_eq (tgt := 47) hx hb dX1_way_42 (by decide) (fun c2 => ?_) (fun c2 => ?_)
    · refine lv_iinc (v := nI (w + 1)) (lv' := [(2, .int (nI (w + 1))), (0, .ref (a 3)), (1, .int (nI tr))]) hx hb dX1_way_47 hl (k := 0) rfl (nI_1 w) (by decide) rfl (fun ls hl => ?_)
      refine lv_goto (tgt := 23) hx hb dX1_way_50 (by decide) ?_
      exact ih hlt _ _ _ ⟨hP, hS, (lv_sub hl [0, 1, 2] rfl)⟩
    · exact absurd (by rw [hn0 w hlt]; decide +kernel) c2
set_option maxHeartbeats 4000000 in
set_option maxRecDepth 100000 in
theorem m_same (l : Launch) (dC : Nat → ClassId) (dI : Nat → Nat → Nat) (a : Nat → Nat) (k : Nat → ClassId) (fn ft gn gt gm : Nat → Int32) (fl : Int32) (o : Nat → Int64) (hinj : nInj a) (p0 q0 : Nat) (hp0 : p0 < 8) (hq0 : q0 < 8) : Met l yX1_same wsX1_same ({ frames := 1, cells := 0, slots := 0, locals := 40 }) (va_Pc [.ref (a 3), .int (nI p0), .int (nI q0)] (nPw dC dI a k fn ft gn gt gm fl o)) (nQi (nb (nAll (nqS gn p0 q0) 1024)) (nPw dC dI a k fn ft gn gt gm (nI 0) o) a) 0 0 (nA0 a) := by
  refine Met.ofW (cc := cX1_same) (maxL := 4) (ret := (some .boolean)) (by decide) rfl ?_
  intro p e s m args below meth c s₁ B hml hv
  obtain ⟨rfl, hP, hK⟩ := hv
  have hx := B.exec
  have hb := B.bytes
  have hr := B.returns
  have hts := atoms_spec (ws := wsX1_same) B.pre
  have hown : s.vm.findClass RX1 = some m.cls := findClass_of_methodNamed B.named
  have hlocks := B.notSynchronized
  have hS : va_S (nA0 a) s.heap s.heap [] := va_S.rf
  have hl := lv_entry ([.ref (a 3), .int (nI p0), .int (nI q0)]) (n := 4) (Nat.le_of_ble_eq_true rfl)
  rw [lg_entry_eq]
  generalize (lg_sl ([.ref (a 3), .int (nI p0), .int (nI q0)]) ++ List.replicate (4 - (lg_sl ([.ref (a 3), .int (nI p0), .int (nI q0)])).length) Slot.unset).toArray = ls at hl ⊢
  have hl : lv_has ls 4 [(0, .ref (a 3)), (1, .int (nI p0)), (2, .int (nI q0))] := hl
  refine lv_aload_n hx hb dX1_same_0 rfl (lv_at hl 0 rfl) ?_
  refine lv_iconst (v := nI 0) hx hb dX1_same_1 (by decide +kernel) ?_
  refine va_put (D := (dC, dI)) (ci := 1) (v := .int (nI 0)) (ty := .int) (C := RX1) (T := TX1) (N := 4) hx hb hts inX1_same tyX1 tyX1_ok nmX1 hown hK hP (nDA hinj) hS 3 rfl rfl 0 (by decide) (hts (.fieldLink RX1 20 "NumberCircuitsModel" "failed" "I") (by decide +kernel)) (fun _ h9 => h9) rfl (by decide +kernel) rfl rfl (Nat.le_of_ble_eq_true rfl) dX1_same_2 (fun H locs hP _ hS => ?_)
  have hP : va_P (dC, dI) vwCl (nW a k fn ft gn gt gm (nI 0) o) H := hP
  refine lv_aload_n hx hb dX1_same_5 rfl (lv_at hl 0 rfl) ?_
  refine lv_iload_n hx hb dX1_same_6 rfl (lv_at hl 1 rfl) ?_
  refine lv_bipush (v := nI 8) hx hb dX1_same_7 (by decide +kernel) ?_
  refine vp_callSi (W.runV (As := [.int (nI p0), .int (nI 8)]) (rest := []) ⟨hx, hb, hml, hown, hts⟩ (m_out l dC dI a k fn ft gn gt gm (nI 0) o (nI p0) 8) (cwV 2 hts gX1_same_X1_out rfl rfl rfl (by decide +kernel) ⟨Nat.le_of_ble_eq_true rfl, Nat.le_of_ble_eq_true rfl⟩) (nPreV hP hK (va_recv hK hP (ci := 1) (q0 := 3) rfl rfl)) rfl rfl hl.1 rfl (lv_room (Nat.le_of_ble_eq_true rfl)) dX1_same_9 ⟨Nat.zero_le _, Nat.zero_le _⟩) (fun r_9_1 er_9_1 => ?_)
  rw [nO_in (by omega) (by decide)] at er_9_1
  subst er_9_1
  refine lv_if_ne (tgt := 25) hx hb dX1_same_12 (by decide) (fun c => absurd c (by decide +kernel)) (fun _ => ?_)
  refine lv_aload_n hx hb dX1_same_15 rfl (lv_at hl 0 rfl) ?_
  refine lv_iload_n hx hb dX1_same_16 rfl (lv_at hl 2 rfl) ?_
  refine lv_bipush (v := nI 8) hx hb dX1_same_17 (by decide +kernel) ?_
  refine vp_callSi (W.runV (As := [.int (nI q0), .int (nI 8)]) (rest := []) ⟨hx, hb, hml, hown, hts⟩ (m_out l dC dI a k fn ft gn gt gm (nI 0) o (nI q0) 8) (cwV 2 hts gX1_same_X1_out rfl rfl rfl (by decide +kernel) ⟨Nat.le_of_ble_eq_true rfl, Nat.le_of_ble_eq_true rfl⟩) (nPreV hP hK (va_recv hK hP (ci := 1) (q0 := 3) rfl rfl)) rfl rfl hl.1 rfl (lv_room (Nat.le_of_ble_eq_true rfl)) dX1_same_19 ⟨Nat.zero_le _, Nat.zero_le _⟩) (fun r_19_2 er_19_2 => ?_)
  rw [nO_in (by omega) (by decide)] at er_19_2
  subst er_19_2
  refine lv_if_eq (tgt := 39) hx hb dX1_same_22 (by decide) (fun _ => ?_) (fun c => absurd c (by decide +kernel))
  refine lv_iconst (v := nI 0) hx hb dX1_same_39 (by decide +kernel) ?_
  refine lv_istore_n (lv' := [(3, .int (nI 0)), (0, .ref (a 3)), (1, .int (nI p0)), (2, .int (nI q0))]) hx hb dX1_same_40 rfl hl (by decide) rfl (fun ls hl => ?_)
  refine nc_loop 1024 (fun w H locs ls => va_P (dC, dI) vwCl (nW a k fn ft gn gt gm (nI 0) o) H ∧ va_S (nA0 a) s.heap H locs ∧ (∀ j, j < w → (nqS gn p0 q0) j = true) ∧ lv_has ls 4 [(3, .int (nI w)), (0, .ref (a 3)), (1, .int (nI p0)), (2, .int (nI q0))]) ⟨hP, hS, (fun j hj => absurd hj (by omega)), (lv_sub hl [0, 1, 2, 3] rfl)⟩ ?_
  intro w H locs ls hw hI ih
  obtain ⟨hP, hS, hq, hl⟩ := hI
  refine lv_iload_n hx hb dX1_same_41 rfl (lv_at hl 0 rfl) ?_
  refine lv_sipush (v := nI 1024) hx hb dX1_same_42 (by decide +kernel) ?_
  refine lv_icmp_ge (tgt := 83) hx hb dX1_same_45 (by decide) (fun c1 => ?_) (fun c1 => ?_)
  · obtain rfl : w = 1024 := nHi (by decide) hw c1
    refine lv_iconst (v := nI 1) hx hb dX1_same_83 (by decide +kernel) ?_
    exact W.zret hx hb hr (by decide +kernel) (fun t ht hW => ⟨⟨_, (), rfl, (by rw [nAll_t 1024 hq]; rfl), by rw [ht]; exact hP, va_K.moved hW.alike hK⟩, hS.F ht⟩) hS.2.2 dX1_same_84
  · have hlt : w < 1024 := nLo (by decide) hw c1
    refine lv_aload_n hx hb dX1_same_48 rfl (lv_at hl 1 rfl) ?_
    refine va_get (D := (dC, dI)) (ci := 1) (v := .ref (a 4)) (C := RX1) (T := TX1) (N := 4) hx hb hts inX1_same hown hK hP 3 rfl rfl 1 (by decide) (hts (.fieldLink RX1 7 "NumberCircuitsModel" "numbers" "[I") (by decide +kernel)) (fun _ h9 => h9) rfl dX1_same_49 ?_
    refine lv_sipush (v := nI 1024) hx hb dX1_same_52 (by decide +kernel) ?_
    refine lv_iload_n hx hb dX1_same_55 rfl (lv_at hl 2 rfl) ?_
    refine lv_imul hx hb dX1_same_56 ?_
    refine lv_iload_n hx hb dX1_same_57 rfl (lv_at hl 0 rfl) ?_
    refine lv_iadd hx hb dX1_same_58 ?_
    refine lv_topi (fun x_59_3 ex_59_3 => ?_)
    obtain rfl : x_59_3 = nI (1024 * p0 + w) := by rw [ex_59_3]; rw [pk_mul, nI_add]
    refine va_iald (i := nI (1024 * p0 + w)) hx hb hK hP 4 2 rfl rfl (vp_in_nI (by omega) (by decide)) dX1_same_59 ?_
    refine lv_topi (fun x_60_4 ex_60_4 => ?_)
    obtain rfl : x_60_4 = gn (1024 * p0 + w) := by rw [ex_60_4]; rw [nI_clamp (show 1024 * p0 + w < 2 ^ 31 by omega)]
    refine lv_aload_n hx hb dX1_same_60 rfl (lv_at hl 1 rfl) ?_
    refine va_get (D := (dC, dI)) (ci := 1) (v := .ref (a 4)) (C := RX1) (T := TX1) (N := 4) hx hb hts inX1_same hown hK hP 3 rfl rfl 1 (by decide) (hts (.fieldLink RX1 7 "NumberCircuitsModel" "numbers" "[I") (by decide +kernel)) (fun _ h9 => h9) rfl dX1_same_61 ?_
    refine lv_sipush (v := nI 1024) hx hb dX1_same_64 (by decide +kernel) ?_
    refine lv_iload_n hx hb dX1_same_67 rfl (lv_at hl 3 rfl) ?_
    refine lv_imul hx hb dX1_same_68 ?_
    refine lv_iload_n hx hb dX1_same_69 rfl (lv_at hl 0 rfl) ?_
    refine lv_iadd hx hb dX1_same_70 ?_
    refine lv_topi (fun x_71_5 ex_71_5 => ?_)
    obtain rfl : x_71_5 = nI (1024 * q0 + w) := by rw [ex_71_5]; rw [pk_mul, nI_add]
    refine va_iald (i := nI (1024 * q0 + w)) hx hb hK hP 4 2 rfl rfl (vp_in_nI (by omega) (by decide)) dX1_same_71 ?_
    refine lv_topi (fun x_72_6 ex_72_6 => ?_)
    obtain rfl : x_72_6 = gn (1024 * q0 + w) := by rw [ex_72_6]; rw [nI_clamp (show 1024 * q0 + w < 2 ^ 31 by omega)]
    refine lv_icmp_eq (tgt := 77) hx hb dX1_same_72 (by decide) (fun c2 => ?_) (fun c2 => ?_)
    · refine lv_iinc (v := nI (w + 1)) (lv' := [(3, .int (nI (w + 1))), (0, .ref (a 3)), (1, .int (nI p0)), (2, .int (nI q0))]) hx hb dX1_same_77 hl (k := 0) rfl (nI_1 w) (by decide) rfl (fun ls hl => ?_)
      refine lv_goto (tgt := 41) hx hb dX1_same_80 (by decide) ?_
      exact ih hlt _ _ _ ⟨hP, hS, lt_s hq (decide_eq_true c2), (lv_sub hl [0, 1, 2, 3] rfl)⟩
    · refine lv_iconst (v := nI 0) hx hb dX1_same_75 (by decide +kernel) ?_
      exact W.zret hx hb hr (by decide +kernel) (fun t ht hW => ⟨⟨_, (), rfl, (by rw [nAll_f (w := w) (decide_eq_false c2) 1024 hlt]; rfl), by rw [ht]; exact hP, va_K.moved hW.alike hK⟩, hS.F ht⟩) hS.2.2 dX1_same_76
theorem nAll_1t {q : Nat → Bool} {v : Nat} (h : q v = true) : nAll q (v + 1) = nAll q v := by
  show (nAll q v && q v) = nAll q v
  rw [h, Bool.and_true]
theorem nAll_1f {q : Nat → Bool} {v : Nat} (h : q v = false) : nAll q (v + 1) = false := by
  show (nAll q v && q v) = false
  rw [h, Bool.and_false]
set_option maxHeartbeats 4000000 in
set_option maxRecDepth 100000 in
theorem m_tidy (l : Launch) (dC : Nat → ClassId) (dI : Nat → Nat → Nat) (a : Nat → Nat) (k : Nat → ClassId) (fn ft gn gt gm : Nat → Int32) (fl : Int32) (o : Nat → Int64) (hinj : nInj a) (wh : Nat) (hwh : wh < 3) : Met l yX1_tidy wsX1_tidy ({ frames := 1, cells := 0, slots := 0, locals := 40 }) (va_Pc [.ref (a 3), .int (nI wh)] (nPw dC dI a k fn ft gn gt gm fl o)) (nQi (nI (nN (nqT gn) 8)) (nPw dC dI a k fn ft gn gt gm (nI 0) o) a) 0 0 (nA0 a) := by
  refine Met.ofW (cc := cX1_tidy) (maxL := 6) (ret := (some .int)) (by decide) rfl ?_
  intro p e s m args below meth c s₁ B hml hv
  obtain ⟨rfl, hP, hK⟩ := hv
  have hx := B.exec
  have hb := B.bytes
  have hr := B.returns
  have hts := atoms_spec (ws := wsX1_tidy) B.pre
  have hown : s.vm.findClass RX1 = some m.cls := findClass_of_methodNamed B.named
  have hlocks := B.notSynchronized
  have hS : va_S (nA0 a) s.heap s.heap [] := va_S.rf
  have hl := lv_entry ([.ref (a 3), .int (nI wh)]) (n := 6) (Nat.le_of_ble_eq_true rfl)
  rw [lg_entry_eq]
  generalize (lg_sl ([.ref (a 3), .int (nI wh)]) ++ List.replicate (6 - (lg_sl ([.ref (a 3), .int (nI wh)])).length) Slot.unset).toArray = ls at hl ⊢
  have hl : lv_has ls 6 [(0, .ref (a 3)), (1, .int (nI wh))] := hl
  refine lv_aload_n hx hb dX1_tidy_0 rfl (lv_at hl 0 rfl) ?_
  refine lv_iconst (v := nI 0) hx hb dX1_tidy_1 (by decide +kernel) ?_
  refine va_put (D := (dC, dI)) (ci := 1) (v := .int (nI 0)) (ty := .int) (C := RX1) (T := TX1) (N := 4) hx hb hts inX1_tidy tyX1 tyX1_ok nmX1 hown hK hP (nDA hinj) hS 3 rfl rfl 0 (by decide) (hts (.fieldLink RX1 20 "NumberCircuitsModel" "failed" "I") (by decide +kernel)) (fun _ h9 => h9) rfl (by decide +kernel) rfl rfl (Nat.le_of_ble_eq_true rfl) dX1_tidy_2 (fun H locs hP _ hS => ?_)
  have hP : va_P (dC, dI) vwCl (nW a k fn ft gn gt gm (nI 0) o) H := hP
  refine lv_aload_n hx hb dX1_tidy_5 rfl (lv_at hl 0 rfl) ?_
  refine lv_iload_n hx hb dX1_tidy_6 rfl (lv_at hl 1 rfl) ?_
  refine lv_iconst (v := nI 3) hx hb dX1_tidy_7 (by decide +kernel) ?_
  refine vp_callSi (W.runV (As := [.int (nI wh), .int (nI 3)]) (rest := []) ⟨hx, hb, hml, hown, hts⟩ (m_out l dC dI a k fn ft gn gt gm (nI 0) o (nI wh) 3) (cwV 2 hts gX1_tidy_X1_out rfl rfl rfl (by decide +kernel) ⟨Nat.le_of_ble_eq_true rfl, Nat.le_of_ble_eq_true rfl⟩) (nPreV hP hK (va_recv hK hP (ci := 1) (q0 := 3) rfl rfl)) rfl rfl hl.1 rfl (lv_room (Nat.le_of_ble_eq_true rfl)) dX1_tidy_8 ⟨Nat.zero_le _, Nat.zero_le _⟩) (fun r_8_1 er_8_1 => ?_)
  rw [nO_in (by omega) (by decide)] at er_8_1
  subst er_8_1
  refine lv_if_eq (tgt := 20) hx hb dX1_tidy_11 (by decide) (fun _ => ?_) (fun c => absurd c (by decide +kernel))
  refine lv_iconst (v := nI 0) hx hb dX1_tidy_20 (by decide +kernel) ?_
  refine lv_istore_n (lv' := [(2, .int (nI 0)), (0, .ref (a 3)), (1, .int (nI wh))]) hx hb dX1_tidy_21 rfl hl (by decide) rfl (fun ls hl => ?_)
  have hl : lv_has ls 6 [(2, .int (nI (nN (nqT gn) 0))), (0, .ref (a 3)), (1, .int (nI wh))] := hl
  refine lv_iconst (v := nI 0) hx hb dX1_tidy_22 (by decide +kernel) ?_
  refine lv_istore_n (lv' := [(3, .int (nI 0)), (2, .int (nI (nN (nqT gn) 0))), (0, .ref (a 3)), (1, .int (nI wh))]) hx hb dX1_tidy_23 rfl hl (by decide) rfl (fun ls hl => ?_)
  refine nc_loop 8 (fun w H locs ls => va_P (dC, dI) vwCl (nW a k fn ft gn gt gm (nI 0) o) H ∧ va_S (nA0 a) s.heap H locs ∧ lv_has ls 6 [(3, .int (nI w)), (2, .int (nI (nN (nqT gn) w))), (0, .ref (a 3)), (1, .int (nI wh))]) ⟨hP, hS, (lv_sub hl [0, 1, 2, 3] rfl)⟩ ?_
  intro w H locs ls hw hI ih
  obtain ⟨hP, hS, hl⟩ := hI
  refine lv_iload_n hx hb dX1_tidy_24 rfl (lv_at hl 0 rfl) ?_
  refine lv_bipush (v := nI 8) hx hb dX1_tidy_25 (by decide +kernel) ?_
  refine lv_icmp_ge (tgt := 88) hx hb dX1_tidy_27 (by decide) (fun c1 => ?_) (fun c1 => ?_)
  · obtain rfl : w = 8 := nHi (by decide) hw c1
    refine lv_iload_n hx hb dX1_tidy_88 rfl (lv_at hl 1 rfl) ?_
    exact W.iret hx hb hr (fun t ht hW => ⟨⟨_, (), rfl, rfl, by rw [ht]; exact hP, va_K.moved hW.alike hK⟩, hS.F ht⟩) hS.2.2 dX1_tidy_89
  · have hlt : w < 8 := nLo (by decide) hw c1
    obtain ⟨v, hv⟩ : ∃ v : Nat, v = w := ⟨w, rfl⟩
    refine lv_iconst (v := nI 0) hx hb dX1_tidy_30 (by decide +kernel) ?_
    refine lv_istore (lv' := [(4, .int (nI 0)), (3, .int (nI w)), (2, .int (nI (nN (nqT gn) w))), (0, .ref (a 3)), (1, .int (nI wh))]) hx hb dX1_tidy_31 hl (by decide) rfl (fun ls hl => ?_)
    have hl : lv_has ls 6 [(4, .int (nb (!nAll (nqZ gn w) 0))), (3, .int (nI w)), (2, .int (nI (nN (nqT gn) w))), (0, .ref (a 3)), (1, .int (nI wh))] := hl
    refine lv_iconst (v := nI 0) hx hb dX1_tidy_33 (by decide +kernel) ?_
    refine lv_istore (lv' := [(5, .int (nI 0)), (4, .int (nb (!nAll (nqZ gn w) 0))), (3, .int (nI w)), (2, .int (nI (nN (nqT gn) w))), (0, .ref (a 3)), (1, .int (nI wh))]) hx hb dX1_tidy_34 hl (by decide) rfl (fun ls hl => ?_)
    refine nc_loop 1024 (fun v H locs ls => va_P (dC, dI) vwCl (nW a k fn ft gn gt gm (nI 0) o) H ∧ va_S (nA0 a) s.heap H locs ∧ lv_has ls 6 [(5, .int (nI v)), (4, .int (nb (!nAll (nqZ gn w) v))), (3, .int (nI w)), (2, .int (nI (nN (nqT gn) w))), (0, .ref (a 3)), (1, .int (nI wh))]) ⟨hP, hS, (lv_sub hl [0, 1, 2, 3, 4, 5] rfl)⟩ ?_
    intro v H locs ls hvw hI ih2
    obtain ⟨hP, hS, hl⟩ := hI
    refine lv_iload hx hb dX1_tidy_36 (lv_at hl 0 rfl) ?_
    refine lv_sipush (v := nI 1024) hx hb dX1_tidy_38 (by decide +kernel) ?_
    refine lv_icmp_ge (tgt := 69) hx hb dX1_tidy_41 (by decide) (fun c3 => ?_) (fun c3 => ?_)
    · obtain rfl : v = 1024 := nHi (by decide) hvw c3
      refine lv_iload_n hx hb dX1_tidy_69 rfl (lv_at hl 3 rfl) ?_
      refine lv_iload hx hb dX1_tidy_70 (lv_at hl 1 rfl) ?_
      refine lv_if_eq (tgt := 79) hx hb dX1_tidy_72 (by decide) (fun c4 => ?_) (fun c4 => ?_)
      · refine lv_iconst (v := nI 0) hx hb dX1_tidy_79 (by decide +kernel) ?_
        refine lv_iadd hx hb dX1_tidy_80 ?_
        refine lv_topi (fun x_81_2 ex_81_2 => ?_)
        obtain rfl : x_81_2 = nI (nN (nqT gn) (w + 1)) := by rw [ex_81_2]; rw [← nN_s, show nqT gn w = false from nb_f c4]; rfl
        refine lv_istore_n (lv' := [(2, .int (nI (nN (nqT gn) (w + 1)))), (5, .int (nI 1024)), (4, .int (nb (!nAll (nqZ gn w) 1024))), (3, .int (nI w)), (0, .ref (a 3)), (1, .int (nI wh))]) hx hb dX1_tidy_81 rfl hl (by decide) rfl (fun ls hl => ?_)
        refine lv_iinc (v := nI (w + 1)) (lv' := [(3, .int (nI (w + 1))), (2, .int (nI (nN (nqT gn) (w + 1)))), (5, .int (nI 1024)), (4, .int (nb (!nAll (nqZ gn w) 1024))), (0, .ref (a 3)), (1, .int (nI wh))]) hx hb dX1_tidy_82 hl (k := 3) rfl (nI_1 w) (by decide) rfl (fun ls hl => ?_)
        refine lv_goto (tgt := 24) hx hb dX1_tidy_85 (by decide) ?_
        exact ih hlt _ _ _ ⟨hP, hS, (lv_sub hl [0, 1, 4, 5] rfl)⟩
      · refine lv_iconst (v := nI 1) hx hb dX1_tidy_75 (by decide +kernel) ?_
        refine lv_goto (tgt := 80) hx hb dX1_tidy_76 (by decide) ?_
        refine lv_iadd hx hb dX1_tidy_80 ?_
        refine lv_topi (fun x_81_2 ex_81_2 => ?_)
        obtain rfl : x_81_2 = nI (nN (nqT gn) (w + 1)) := by rw [ex_81_2]; rw [← nN_s, show nqT gn w = true from nb_t c4]; rfl
        refine lv_istore_n (lv' := [(2, .int (nI (nN (nqT gn) (w + 1)))), (5, .int (nI 1024)), (4, .int (nb (!nAll (nqZ gn w) 1024))), (3, .int (nI w)), (0, .ref (a 3)), (1, .int (nI wh))]) hx hb dX1_tidy_81 rfl hl (by decide) rfl (fun ls hl => ?_)
        refine lv_iinc (v := nI (w + 1)) (lv' := [(3, .int (nI (w + 1))), (2, .int (nI (nN (nqT gn) (w + 1)))), (5, .int (nI 1024)), (4, .int (nb (!nAll (nqZ gn w) 1024))), (0, .ref (a 3)), (1, .int (nI wh))]) hx hb dX1_tidy_82 hl (k := 3) rfl (nI_1 w) (by decide) rfl (fun ls hl => ?_)
        refine lv_goto (tgt := 24) hx hb dX1_tidy_85 (by decide) ?_
        exact ih hlt _ _ _ ⟨hP, hS, (lv_sub hl [0, 1, 4, 5] rfl)⟩
    · have hlv : v < 1024 := nLo (by decide) hvw c3
      refine lv_aload_n hx hb dX1_tidy_44 rfl (lv_at hl 4 rfl) ?_
      refine va_get (D := (dC, dI)) (ci := 1) (v := .ref (a 4)) (C := RX1) (T := TX1) (N := 4) hx hb hts inX1_tidy hown hK hP 3 rfl rfl 1 (by decide) (hts (.fieldLink RX1 7 "NumberCircuitsModel" "numbers" "[I") (by decide +kernel)) (fun _ h9 => h9) rfl dX1_tidy_45 ?_
      refine lv_sipush (v := nI 1024) hx hb dX1_tidy_48 (by decide +kernel) ?_
      refine lv_iload_n hx hb dX1_tidy_51 rfl (lv_at hl 2 rfl) ?_
      refine lv_imul hx hb dX1_tidy_52 ?_
      refine lv_iload hx hb dX1_tidy_53 (lv_at hl 0 rfl) ?_
      refine lv_iadd hx hb dX1_tidy_55 ?_
      refine lv_topi (fun x_56_2 ex_56_2 => ?_)
      obtain rfl : x_56_2 = nI (1024 * w + v) := by rw [ex_56_2]; rw [pk_mul, nI_add]
      refine va_iald (i := nI (1024 * w + v)) hx hb hK hP 4 2 rfl rfl (vp_in_nI (by omega) (by decide)) dX1_tidy_56 ?_
      refine lv_topi (fun x_57_3 ex_57_3 => ?_)
      obtain rfl : x_57_3 = gn (1024 * w + v) := by rw [ex_57_3]; rw [nI_clamp (show 1024 * w + v < 2 ^ 31 by omega)]
      refine lv_if_eq (tgt := 63) hx hb dX1_tidy_57 (by decide) (fun c4 => ?_) (fun c4 => ?_)
      · refine lv_iinc (v := nI (v + 1)) (lv' := [(5, .int (nI (v + 1))), (4, .int (nb (!nAll (nqZ gn w) v))), (3, .int (nI w)), (2, .int (nI (nN (nqT gn) w))), (0, .ref (a 3)), (1, .int (nI wh))]) hx hb dX1_tidy_63 hl (k := 0) rfl (nI_1 v) (by decide) rfl (fun ls hl => ?_)
        refine lv_goto (tgt := 36) hx hb dX1_tidy_66 (by decide) ?_
        have hl := (lv_sub hl [0, 1, 2, 3, 4, 5] rfl)
        rw [show nAll (nqZ gn w) v = nAll (nqZ gn w) (v + 1) from (nAll_1t (decide_eq_true c4)).symm] at hl
        exact ih2 hlv _ _ _ ⟨hP, hS, hl⟩
      · refine lv_iconst (v := nI 1) hx hb dX1_tidy_60 (by decide +kernel) ?_
        refine lv_istore (lv' := [(4, .int (nI 1)), (5, .int (nI v)), (3, .int (nI w)), (2, .int (nI (nN (nqT gn) w))), (0, .ref (a 3)), (1, .int (nI wh))]) hx hb dX1_tidy_61 hl (by decide) rfl (fun ls hl => ?_)
        refine lv_iinc (v := nI (v + 1)) (lv' := [(5, .int (nI (v + 1))), (4, .int (nI 1)), (3, .int (nI w)), (2, .int (nI (nN (nqT gn) w))), (0, .ref (a 3)), (1, .int (nI wh))]) hx hb dX1_tidy_63 hl (k := 1) rfl (nI_1 v) (by decide) rfl (fun ls hl => ?_)
        refine lv_goto (tgt := 36) hx hb dX1_tidy_66 (by decide) ?_
        have hl := (lv_sub hl [0, 1, 2, 3, 4, 5] rfl)
        rw [show nI 1 = nb (!nAll (nqZ gn w) (v + 1)) by rw [nAll_1f (decide_eq_false c4)]; rfl] at hl
        exact ih2 hlv _ _ _ ⟨hP, hS, hl⟩
