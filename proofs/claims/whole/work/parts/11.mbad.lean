set_option maxHeartbeats 4000000 in
set_option maxRecDepth 100000 in
theorem m_constantB (l : Launch) (dC : Nat → ClassId) (dI : Nat → Nat → Nat) (a : Nat → Nat) (k : Nat → ClassId) (fn ft gn gt gm : Nat → Int32) (fl : Int32) (o : Nat → Int64) (hinj : nInj a) (x1 x2 : Int32) (hbad : (nO x1 8) = true) : Met l yX1_constant wsX1_constant ({ frames := 1, cells := 0, slots := 0, locals := 40 }) (va_Pc [.ref (a 3), .int x1, .int x2] (nPw dC dI a k fn ft gn gt gm fl o)) (nQv (nPw dC dI a k fn ft gn gt gm (nI 1) o) a) 0 0 (nA0 a) := by
  refine Met.ofW (cc := cX1_constant) (maxL := 4) (ret := none) (by decide) rfl ?_
  intro p e s m args below meth c s₁ B hml hv
  obtain ⟨rfl, hP, hK⟩ := hv
  have hx := B.exec
  have hb := B.bytes
  have hr := B.returns
  have hts := atoms_spec (ws := wsX1_constant) B.pre
  have hown : s.vm.findClass RX1 = some m.cls := findClass_of_methodNamed B.named
  have hlocks := B.notSynchronized
  have hS : va_S (nA0 a) s.heap s.heap [] := va_S.rf
  have hl := lv_entry ([.ref (a 3), .int x1, .int x2]) (n := 4) (Nat.le_of_ble_eq_true rfl)
  rw [lg_entry_eq]
  generalize (lg_sl ([.ref (a 3), .int x1, .int x2]) ++ List.replicate (4 - (lg_sl ([.ref (a 3), .int x1, .int x2])).length) Slot.unset).toArray = ls at hl ⊢
  have hl : lv_has ls 4 [(0, .ref (a 3)), (1, .int x1), (2, .int x2)] := hl
  refine lv_aload_n hx hb dX1_constant_0 rfl (lv_at hl 0 rfl) ?_
  refine lv_iconst (v := nI 0) hx hb dX1_constant_1 (by decide +kernel) ?_
  refine va_put (D := (dC, dI)) (ci := 1) (v := .int (nI 0)) (ty := .int) (C := RX1) (T := TX1) (N := 4) hx hb hts inX1_constant tyX1 tyX1_ok nmX1 hown hK hP (nDA hinj) hS 3 rfl rfl 0 (by decide) (hts (.fieldLink RX1 20 "NumberCircuitsModel" "failed" "I") (by decide +kernel)) (fun _ h9 => h9) rfl (by decide +kernel) rfl rfl (Nat.le_of_ble_eq_true rfl) dX1_constant_2 (fun H locs hP _ hS => ?_)
  have hP : va_P (dC, dI) vwCl (nW a k fn ft gn gt gm (nI 0) o) H := hP
  refine lv_aload_n hx hb dX1_constant_5 rfl (lv_at hl 0 rfl) ?_
  refine lv_iload_n hx hb dX1_constant_6 rfl (lv_at hl 1 rfl) ?_
  refine lv_bipush (v := nI 8) hx hb dX1_constant_7 (by decide +kernel) ?_
  refine vp_callSi (W.runV (As := [.int x1, .int (nI 8)]) (rest := []) ⟨hx, hb, hml, hown, hts⟩ (m_out l dC dI a k fn ft gn gt gm (nI 0) o x1 8) (cwV 2 hts gX1_constant_X1_out rfl rfl rfl (by decide +kernel) ⟨Nat.le_of_ble_eq_true rfl, Nat.le_of_ble_eq_true rfl⟩) (nPreV hP hK (va_recv hK hP (ci := 1) (q0 := 3) rfl rfl)) rfl rfl hl.1 rfl (lv_room (Nat.le_of_ble_eq_true rfl)) dX1_constant_9 ⟨Nat.zero_le _, Nat.zero_le _⟩) (fun r_9_1 er_9_1 => ?_)
  subst er_9_1
  refine lv_if_eq (tgt := 23) hx hb dX1_constant_12 (by decide) (fun c0 => ?_) (fun c0 => ?_)
  · exact absurd hbad (by rw [nb_f c0]; decide)
  · refine lv_aload_n hx hb dX1_constant_15 rfl (lv_at hl 0 rfl) ?_
    refine lv_iconst (v := nI 1) hx hb dX1_constant_16 (by decide +kernel) ?_
    refine va_put (D := (dC, dI)) (ci := 1) (v := .int (nI 1)) (ty := .int) (C := RX1) (T := TX1) (N := 4) hx hb hts inX1_constant tyX1 tyX1_ok nmX1 hown hK hP (nDA hinj) hS 3 rfl rfl 0 (by decide) (hts (.fieldLink RX1 20 "NumberCircuitsModel" "failed" "I") (by decide +kernel)) (fun _ h9 => h9) rfl (by decide +kernel) rfl rfl (Nat.le_of_ble_eq_true rfl) dX1_constant_17 (fun H locs hP _ hS => ?_)
    have hP : va_P (dC, dI) vwCl (nW a k fn ft gn gt gm (nI 1) o) H := hP
    refine lv_goto (tgt := 52) hx hb dX1_constant_20 (by decide) ?_
    exact W.vret hx hb hr (fun t ht hW => ⟨⟨(), rfl, trivial, by rw [ht]; exact hP, va_K.moved hW.alike hK⟩, hS.F ht⟩) hS.2.2 dX1_constant_52
set_option maxHeartbeats 4000000 in
set_option maxRecDepth 100000 in
theorem m_unknownB (l : Launch) (dC : Nat → ClassId) (dI : Nat → Nat → Nat) (a : Nat → Nat) (k : Nat → ClassId) (fn ft gn gt gm : Nat → Int32) (fl : Int32) (o : Nat → Int64) (hinj : nInj a) (x1 x2 x3 x4 : Int32) (hbad : (nO x1 8 || nO x2 11 || nO x3 11 || !decide (x2 + x3 ≤ nI 10)) = true) : Met l yX1_unknown wsX1_unknown ({ frames := 1, cells := 0, slots := 0, locals := 40 }) (va_Pc [.ref (a 3), .int x1, .int x2, .int x3, .int x4] (nPw dC dI a k fn ft gn gt gm fl o)) (nQv (nPw dC dI a k fn ft gn gt gm (nI 1) o) a) 0 0 (nA0 a) := by
  refine Met.ofW (cc := cX1_unknown) (maxL := 6) (ret := none) (by decide) rfl ?_
  intro p e s m args below meth c s₁ B hml hv
  obtain ⟨rfl, hP, hK⟩ := hv
  have hx := B.exec
  have hb := B.bytes
  have hr := B.returns
  have hts := atoms_spec (ws := wsX1_unknown) B.pre
  have hown : s.vm.findClass RX1 = some m.cls := findClass_of_methodNamed B.named
  have hlocks := B.notSynchronized
  have hS : va_S (nA0 a) s.heap s.heap [] := va_S.rf
  have hl := lv_entry ([.ref (a 3), .int x1, .int x2, .int x3, .int x4]) (n := 6) (Nat.le_of_ble_eq_true rfl)
  rw [lg_entry_eq]
  generalize (lg_sl ([.ref (a 3), .int x1, .int x2, .int x3, .int x4]) ++ List.replicate (6 - (lg_sl ([.ref (a 3), .int x1, .int x2, .int x3, .int x4])).length) Slot.unset).toArray = ls at hl ⊢
  have hl : lv_has ls 6 [(0, .ref (a 3)), (1, .int x1), (2, .int x2), (3, .int x3), (4, .int x4)] := hl
  refine lv_aload_n hx hb dX1_unknown_0 rfl (lv_at hl 0 rfl) ?_
  refine lv_iconst (v := nI 0) hx hb dX1_unknown_1 (by decide +kernel) ?_
  refine va_put (D := (dC, dI)) (ci := 1) (v := .int (nI 0)) (ty := .int) (C := RX1) (T := TX1) (N := 4) hx hb hts inX1_unknown tyX1 tyX1_ok nmX1 hown hK hP (nDA hinj) hS 3 rfl rfl 0 (by decide) (hts (.fieldLink RX1 20 "NumberCircuitsModel" "failed" "I") (by decide +kernel)) (fun _ h9 => h9) rfl (by decide +kernel) rfl rfl (Nat.le_of_ble_eq_true rfl) dX1_unknown_2 (fun H locs hP _ hS => ?_)
  have hP : va_P (dC, dI) vwCl (nW a k fn ft gn gt gm (nI 0) o) H := hP
  refine lv_aload_n hx hb dX1_unknown_5 rfl (lv_at hl 0 rfl) ?_
  refine lv_iload_n hx hb dX1_unknown_6 rfl (lv_at hl 1 rfl) ?_
  refine lv_bipush (v := nI 8) hx hb dX1_unknown_7 (by decide +kernel) ?_
  refine vp_callSi (W.runV (As := [.int x1, .int (nI 8)]) (rest := []) ⟨hx, hb, hml, hown, hts⟩ (m_out l dC dI a k fn ft gn gt gm (nI 0) o x1 8) (cwV 2 hts gX1_unknown_X1_out rfl rfl rfl (by decide +kernel) ⟨Nat.le_of_ble_eq_true rfl, Nat.le_of_ble_eq_true rfl⟩) (nPreV hP hK (va_recv hK hP (ci := 1) (q0 := 3) rfl rfl)) rfl rfl hl.1 rfl (lv_room (Nat.le_of_ble_eq_true rfl)) dX1_unknown_9 ⟨Nat.zero_le _, Nat.zero_le _⟩) (fun r_9_1 er_9_1 => ?_)
  subst er_9_1
  refine lv_if_ne (tgt := 43) hx hb dX1_unknown_12 (by decide) (fun c0 => ?_) (fun c0 => ?_)
  · refine lv_aload_n hx hb dX1_unknown_43 rfl (lv_at hl 0 rfl) ?_
    refine lv_iconst (v := nI 1) hx hb dX1_unknown_44 (by decide +kernel) ?_
    refine va_put (D := (dC, dI)) (ci := 1) (v := .int (nI 1)) (ty := .int) (C := RX1) (T := TX1) (N := 4) hx hb hts inX1_unknown tyX1 tyX1_ok nmX1 hown hK hP (nDA hinj) hS 3 rfl rfl 0 (by decide) (hts (.fieldLink RX1 20 "NumberCircuitsModel" "failed" "I") (by decide +kernel)) (fun _ h9 => h9) rfl (by decide +kernel) rfl rfl (Nat.le_of_ble_eq_true rfl) dX1_unknown_45 (fun H locs hP _ hS => ?_)
    have hP : va_P (dC, dI) vwCl (nW a k fn ft gn gt gm (nI 1) o) H := hP
    refine lv_goto (tgt := 95) hx hb dX1_unknown_48 (by decide) ?_
    exact W.vret hx hb hr (fun t ht hW => ⟨⟨(), rfl, trivial, by rw [ht]; exact hP, va_K.moved hW.alike hK⟩, hS.F ht⟩) hS.2.2 dX1_unknown_95
  · refine lv_aload_n hx hb dX1_unknown_15 rfl (lv_at hl 0 rfl) ?_
    refine lv_iload_n hx hb dX1_unknown_16 rfl (lv_at hl 2 rfl) ?_
    refine lv_bipush (v := nI 11) hx hb dX1_unknown_17 (by decide +kernel) ?_
    refine vp_callSi (W.runV (As := [.int x2, .int (nI 11)]) (rest := []) ⟨hx, hb, hml, hown, hts⟩ (m_out l dC dI a k fn ft gn gt gm (nI 0) o x2 11) (cwV 2 hts gX1_unknown_X1_out rfl rfl rfl (by decide +kernel) ⟨Nat.le_of_ble_eq_true rfl, Nat.le_of_ble_eq_true rfl⟩) (nPreV hP hK (va_recv hK hP (ci := 1) (q0 := 3) rfl rfl)) rfl rfl hl.1 rfl (lv_room (Nat.le_of_ble_eq_true rfl)) dX1_unknown_19 ⟨Nat.zero_le _, Nat.zero_le _⟩) (fun r_19_2 er_19_2 => ?_)
    subst er_19_2
    refine lv_if_ne (tgt := 43) hx hb dX1_unknown_22 (by decide) (fun c1 => ?_) (fun c1 => ?_)
    · refine lv_aload_n hx hb dX1_unknown_43 rfl (lv_at hl 0 rfl) ?_
      refine lv_iconst (v := nI 1) hx hb dX1_unknown_44 (by decide +kernel) ?_
      refine va_put (D := (dC, dI)) (ci := 1) (v := .int (nI 1)) (ty := .int) (C := RX1) (T := TX1) (N := 4) hx hb hts inX1_unknown tyX1 tyX1_ok nmX1 hown hK hP (nDA hinj) hS 3 rfl rfl 0 (by decide) (hts (.fieldLink RX1 20 "NumberCircuitsModel" "failed" "I") (by decide +kernel)) (fun _ h9 => h9) rfl (by decide +kernel) rfl rfl (Nat.le_of_ble_eq_true rfl) dX1_unknown_45 (fun H locs hP _ hS => ?_)
      have hP : va_P (dC, dI) vwCl (nW a k fn ft gn gt gm (nI 1) o) H := hP
      refine lv_goto (tgt := 95) hx hb dX1_unknown_48 (by decide) ?_
      exact W.vret hx hb hr (fun t ht hW => ⟨⟨(), rfl, trivial, by rw [ht]; exact hP, va_K.moved hW.alike hK⟩, hS.F ht⟩) hS.2.2 dX1_unknown_95
    · refine lv_aload_n hx hb dX1_unknown_25 rfl (lv_at hl 0 rfl) ?_
      refine lv_iload_n hx hb dX1_unknown_26 rfl (lv_at hl 3 rfl) ?_
      refine lv_bipush (v := nI 11) hx hb dX1_unknown_27 (by decide +kernel) ?_
      refine vp_callSi (W.runV (As := [.int x3, .int (nI 11)]) (rest := []) ⟨hx, hb, hml, hown, hts⟩ (m_out l dC dI a k fn ft gn gt gm (nI 0) o x3 11) (cwV 2 hts gX1_unknown_X1_out rfl rfl rfl (by decide +kernel) ⟨Nat.le_of_ble_eq_true rfl, Nat.le_of_ble_eq_true rfl⟩) (nPreV hP hK (va_recv hK hP (ci := 1) (q0 := 3) rfl rfl)) rfl rfl hl.1 rfl (lv_room (Nat.le_of_ble_eq_true rfl)) dX1_unknown_29 ⟨Nat.zero_le _, Nat.zero_le _⟩) (fun r_29_3 er_29_3 => ?_)
      subst er_29_3
      refine lv_if_ne (tgt := 43) hx hb dX1_unknown_32 (by decide) (fun c2 => ?_) (fun c2 => ?_)
      · refine lv_aload_n hx hb dX1_unknown_43 rfl (lv_at hl 0 rfl) ?_
        refine lv_iconst (v := nI 1) hx hb dX1_unknown_44 (by decide +kernel) ?_
        refine va_put (D := (dC, dI)) (ci := 1) (v := .int (nI 1)) (ty := .int) (C := RX1) (T := TX1) (N := 4) hx hb hts inX1_unknown tyX1 tyX1_ok nmX1 hown hK hP (nDA hinj) hS 3 rfl rfl 0 (by decide) (hts (.fieldLink RX1 20 "NumberCircuitsModel" "failed" "I") (by decide +kernel)) (fun _ h9 => h9) rfl (by decide +kernel) rfl rfl (Nat.le_of_ble_eq_true rfl) dX1_unknown_45 (fun H locs hP _ hS => ?_)
        have hP : va_P (dC, dI) vwCl (nW a k fn ft gn gt gm (nI 1) o) H := hP
        refine lv_goto (tgt := 95) hx hb dX1_unknown_48 (by decide) ?_
        exact W.vret hx hb hr (fun t ht hW => ⟨⟨(), rfl, trivial, by rw [ht]; exact hP, va_K.moved hW.alike hK⟩, hS.F ht⟩) hS.2.2 dX1_unknown_95
      · refine lv_iload_n hx hb dX1_unknown_35 rfl (lv_at hl 2 rfl) ?_
        refine lv_iload_n hx hb dX1_unknown_36 rfl (lv_at hl 3 rfl) ?_
        refine lv_iadd hx hb dX1_unknown_37 ?_
        refine lv_bipush (v := nI 10) hx hb dX1_unknown_38 (by decide +kernel) ?_
        refine lv_icmp_le (tgt := 51) hx hb dX1_unknown_40 (by decide) (fun ce => ?_) (fun ce => ?_)
        · exact absurd hbad (by rw [nb_f c0, nb_f c1, nb_f c2, decide_eq_true ce]; decide)
        · refine lv_aload_n hx hb dX1_unknown_43 rfl (lv_at hl 0 rfl) ?_
          refine lv_iconst (v := nI 1) hx hb dX1_unknown_44 (by decide +kernel) ?_
          refine va_put (D := (dC, dI)) (ci := 1) (v := .int (nI 1)) (ty := .int) (C := RX1) (T := TX1) (N := 4) hx hb hts inX1_unknown tyX1 tyX1_ok nmX1 hown hK hP (nDA hinj) hS 3 rfl rfl 0 (by decide) (hts (.fieldLink RX1 20 "NumberCircuitsModel" "failed" "I") (by decide +kernel)) (fun _ h9 => h9) rfl (by decide +kernel) rfl rfl (Nat.le_of_ble_eq_true rfl) dX1_unknown_45 (fun H locs hP _ hS => ?_)
          have hP : va_P (dC, dI) vwCl (nW a k fn ft gn gt gm (nI 1) o) H := hP
          refine lv_goto (tgt := 95) hx hb dX1_unknown_48 (by decide) ?_
          exact W.vret hx hb hr (fun t ht hW => ⟨⟨(), rfl, trivial, by rw [ht]; exact hP, va_K.moved hW.alike hK⟩, hS.F ht⟩) hS.2.2 dX1_unknown_95
set_option maxHeartbeats 4000000 in
set_option maxRecDepth 100000 in
theorem m_reckonB (l : Launch) (dC : Nat → ClassId) (dI : Nat → Nat → Nat) (a : Nat → Nat) (k : Nat → ClassId) (fn ft gn gt gm : Nat → Int32) (fl : Int32) (o : Nat → Int64) (hinj : nInj a) (x1 x2 x3 x4 : Int32) (hbad : (nO x1 8 || nO x2 6 || nO x3 8 || nO x4 8) = true) : Met l yX1_reckon wsX1_reckon ({ frames := 1, cells := 0, slots := 0, locals := 40 }) (va_Pc [.ref (a 3), .int x1, .int x2, .int x3, .int x4] (nPw dC dI a k fn ft gn gt gm fl o)) (nQv (nPw dC dI a k fn ft gn gt gm (nI 1) o) a) 0 0 (nA0 a) := by
  refine Met.ofW (cc := cX1_reckon) (maxL := 6) (ret := none) (by decide) rfl ?_
  intro p e s m args below meth c s₁ B hml hv
  obtain ⟨rfl, hP, hK⟩ := hv
  have hx := B.exec
  have hb := B.bytes
  have hr := B.returns
  have hts := atoms_spec (ws := wsX1_reckon) B.pre
  have hown : s.vm.findClass RX1 = some m.cls := findClass_of_methodNamed B.named
  have hlocks := B.notSynchronized
  have hS : va_S (nA0 a) s.heap s.heap [] := va_S.rf
  have hl := lv_entry ([.ref (a 3), .int x1, .int x2, .int x3, .int x4]) (n := 6) (Nat.le_of_ble_eq_true rfl)
  rw [lg_entry_eq]
  generalize (lg_sl ([.ref (a 3), .int x1, .int x2, .int x3, .int x4]) ++ List.replicate (6 - (lg_sl ([.ref (a 3), .int x1, .int x2, .int x3, .int x4])).length) Slot.unset).toArray = ls at hl ⊢
  have hl : lv_has ls 6 [(0, .ref (a 3)), (1, .int x1), (2, .int x2), (3, .int x3), (4, .int x4)] := hl
  refine lv_aload_n hx hb dX1_reckon_0 rfl (lv_at hl 0 rfl) ?_
  refine lv_iconst (v := nI 0) hx hb dX1_reckon_1 (by decide +kernel) ?_
  refine va_put (D := (dC, dI)) (ci := 1) (v := .int (nI 0)) (ty := .int) (C := RX1) (T := TX1) (N := 4) hx hb hts inX1_reckon tyX1 tyX1_ok nmX1 hown hK hP (nDA hinj) hS 3 rfl rfl 0 (by decide) (hts (.fieldLink RX1 20 "NumberCircuitsModel" "failed" "I") (by decide +kernel)) (fun _ h9 => h9) rfl (by decide +kernel) rfl rfl (Nat.le_of_ble_eq_true rfl) dX1_reckon_2 (fun H locs hP _ hS => ?_)
  have hP : va_P (dC, dI) vwCl (nW a k fn ft gn gt gm (nI 0) o) H := hP
  refine lv_aload_n hx hb dX1_reckon_5 rfl (lv_at hl 0 rfl) ?_
  refine lv_iload_n hx hb dX1_reckon_6 rfl (lv_at hl 1 rfl) ?_
  refine lv_bipush (v := nI 8) hx hb dX1_reckon_7 (by decide +kernel) ?_
  refine vp_callSi (W.runV (As := [.int x1, .int (nI 8)]) (rest := []) ⟨hx, hb, hml, hown, hts⟩ (m_out l dC dI a k fn ft gn gt gm (nI 0) o x1 8) (cwV 2 hts gX1_reckon_X1_out rfl rfl rfl (by decide +kernel) ⟨Nat.le_of_ble_eq_true rfl, Nat.le_of_ble_eq_true rfl⟩) (nPreV hP hK (va_recv hK hP (ci := 1) (q0 := 3) rfl rfl)) rfl rfl hl.1 rfl (lv_room (Nat.le_of_ble_eq_true rfl)) dX1_reckon_9 ⟨Nat.zero_le _, Nat.zero_le _⟩) (fun r_9_1 er_9_1 => ?_)
  subst er_9_1
  refine lv_if_ne (tgt := 46) hx hb dX1_reckon_12 (by decide) (fun c0 => ?_) (fun c0 => ?_)
  · refine lv_aload_n hx hb dX1_reckon_46 rfl (lv_at hl 0 rfl) ?_
    refine lv_iconst (v := nI 1) hx hb dX1_reckon_47 (by decide +kernel) ?_
    refine va_put (D := (dC, dI)) (ci := 1) (v := .int (nI 1)) (ty := .int) (C := RX1) (T := TX1) (N := 4) hx hb hts inX1_reckon tyX1 tyX1_ok nmX1 hown hK hP (nDA hinj) hS 3 rfl rfl 0 (by decide) (hts (.fieldLink RX1 20 "NumberCircuitsModel" "failed" "I") (by decide +kernel)) (fun _ h9 => h9) rfl (by decide +kernel) rfl rfl (Nat.le_of_ble_eq_true rfl) dX1_reckon_48 (fun H locs hP _ hS => ?_)
    have hP : va_P (dC, dI) vwCl (nW a k fn ft gn gt gm (nI 1) o) H := hP
    refine lv_goto (tgt := 147) hx hb dX1_reckon_51 (by decide) ?_
    exact W.vret hx hb hr (fun t ht hW => ⟨⟨(), rfl, trivial, by rw [ht]; exact hP, va_K.moved hW.alike hK⟩, hS.F ht⟩) hS.2.2 dX1_reckon_147
  · refine lv_aload_n hx hb dX1_reckon_15 rfl (lv_at hl 0 rfl) ?_
    refine lv_iload_n hx hb dX1_reckon_16 rfl (lv_at hl 2 rfl) ?_
    refine lv_bipush (v := nI 6) hx hb dX1_reckon_17 (by decide +kernel) ?_
    refine vp_callSi (W.runV (As := [.int x2, .int (nI 6)]) (rest := []) ⟨hx, hb, hml, hown, hts⟩ (m_out l dC dI a k fn ft gn gt gm (nI 0) o x2 6) (cwV 2 hts gX1_reckon_X1_out rfl rfl rfl (by decide +kernel) ⟨Nat.le_of_ble_eq_true rfl, Nat.le_of_ble_eq_true rfl⟩) (nPreV hP hK (va_recv hK hP (ci := 1) (q0 := 3) rfl rfl)) rfl rfl hl.1 rfl (lv_room (Nat.le_of_ble_eq_true rfl)) dX1_reckon_19 ⟨Nat.zero_le _, Nat.zero_le _⟩) (fun r_19_2 er_19_2 => ?_)
    subst er_19_2
    refine lv_if_ne (tgt := 46) hx hb dX1_reckon_22 (by decide) (fun c1 => ?_) (fun c1 => ?_)
    · refine lv_aload_n hx hb dX1_reckon_46 rfl (lv_at hl 0 rfl) ?_
      refine lv_iconst (v := nI 1) hx hb dX1_reckon_47 (by decide +kernel) ?_
      refine va_put (D := (dC, dI)) (ci := 1) (v := .int (nI 1)) (ty := .int) (C := RX1) (T := TX1) (N := 4) hx hb hts inX1_reckon tyX1 tyX1_ok nmX1 hown hK hP (nDA hinj) hS 3 rfl rfl 0 (by decide) (hts (.fieldLink RX1 20 "NumberCircuitsModel" "failed" "I") (by decide +kernel)) (fun _ h9 => h9) rfl (by decide +kernel) rfl rfl (Nat.le_of_ble_eq_true rfl) dX1_reckon_48 (fun H locs hP _ hS => ?_)
      have hP : va_P (dC, dI) vwCl (nW a k fn ft gn gt gm (nI 1) o) H := hP
      refine lv_goto (tgt := 147) hx hb dX1_reckon_51 (by decide) ?_
      exact W.vret hx hb hr (fun t ht hW => ⟨⟨(), rfl, trivial, by rw [ht]; exact hP, va_K.moved hW.alike hK⟩, hS.F ht⟩) hS.2.2 dX1_reckon_147
    · refine lv_aload_n hx hb dX1_reckon_25 rfl (lv_at hl 0 rfl) ?_
      refine lv_iload_n hx hb dX1_reckon_26 rfl (lv_at hl 3 rfl) ?_
      refine lv_bipush (v := nI 8) hx hb dX1_reckon_27 (by decide +kernel) ?_
      refine vp_callSi (W.runV (As := [.int x3, .int (nI 8)]) (rest := []) ⟨hx, hb, hml, hown, hts⟩ (m_out l dC dI a k fn ft gn gt gm (nI 0) o x3 8) (cwV 2 hts gX1_reckon_X1_out rfl rfl rfl (by decide +kernel) ⟨Nat.le_of_ble_eq_true rfl, Nat.le_of_ble_eq_true rfl⟩) (nPreV hP hK (va_recv hK hP (ci := 1) (q0 := 3) rfl rfl)) rfl rfl hl.1 rfl (lv_room (Nat.le_of_ble_eq_true rfl)) dX1_reckon_29 ⟨Nat.zero_le _, Nat.zero_le _⟩) (fun r_29_3 er_29_3 => ?_)
      subst er_29_3
      refine lv_if_ne (tgt := 46) hx hb dX1_reckon_32 (by decide) (fun c2 => ?_) (fun c2 => ?_)
      · refine lv_aload_n hx hb dX1_reckon_46 rfl (lv_at hl 0 rfl) ?_
        refine lv_iconst (v := nI 1) hx hb dX1_reckon_47 (by decide +kernel) ?_
        refine va_put (D := (dC, dI)) (ci := 1) (v := .int (nI 1)) (ty := .int) (C := RX1) (T := TX1) (N := 4) hx hb hts inX1_reckon tyX1 tyX1_ok nmX1 hown hK hP (nDA hinj) hS 3 rfl rfl 0 (by decide) (hts (.fieldLink RX1 20 "NumberCircuitsModel" "failed" "I") (by decide +kernel)) (fun _ h9 => h9) rfl (by decide +kernel) rfl rfl (Nat.le_of_ble_eq_true rfl) dX1_reckon_48 (fun H locs hP _ hS => ?_)
        have hP : va_P (dC, dI) vwCl (nW a k fn ft gn gt gm (nI 1) o) H := hP
        refine lv_goto (tgt := 147) hx hb dX1_reckon_51 (by decide) ?_
        exact W.vret hx hb hr (fun t ht hW => ⟨⟨(), rfl, trivial, by rw [ht]; exact hP, va_K.moved hW.alike hK⟩, hS.F ht⟩) hS.2.2 dX1_reckon_147
      · refine lv_aload_n hx hb dX1_reckon_35 rfl (lv_at hl 0 rfl) ?_
        refine lv_iload hx hb dX1_reckon_36 (lv_at hl 4 rfl) ?_
        refine lv_bipush (v := nI 8) hx hb dX1_reckon_38 (by decide +kernel) ?_
        refine vp_callSi (W.runV (As := [.int x4, .int (nI 8)]) (rest := []) ⟨hx, hb, hml, hown, hts⟩ (m_out l dC dI a k fn ft gn gt gm (nI 0) o x4 8) (cwV 2 hts gX1_reckon_X1_out rfl rfl rfl (by decide +kernel) ⟨Nat.le_of_ble_eq_true rfl, Nat.le_of_ble_eq_true rfl⟩) (nPreV hP hK (va_recv hK hP (ci := 1) (q0 := 3) rfl rfl)) rfl rfl hl.1 rfl (lv_room (Nat.le_of_ble_eq_true rfl)) dX1_reckon_40 ⟨Nat.zero_le _, Nat.zero_le _⟩) (fun r_40_4 er_40_4 => ?_)
        subst er_40_4
        refine lv_if_eq (tgt := 54) hx hb dX1_reckon_43 (by decide) (fun c3 => ?_) (fun c3 => ?_)
        · exact absurd hbad (by rw [nb_f c0, nb_f c1, nb_f c2, nb_f c3]; decide)
        · refine lv_aload_n hx hb dX1_reckon_46 rfl (lv_at hl 0 rfl) ?_
          refine lv_iconst (v := nI 1) hx hb dX1_reckon_47 (by decide +kernel) ?_
          refine va_put (D := (dC, dI)) (ci := 1) (v := .int (nI 1)) (ty := .int) (C := RX1) (T := TX1) (N := 4) hx hb hts inX1_reckon tyX1 tyX1_ok nmX1 hown hK hP (nDA hinj) hS 3 rfl rfl 0 (by decide) (hts (.fieldLink RX1 20 "NumberCircuitsModel" "failed" "I") (by decide +kernel)) (fun _ h9 => h9) rfl (by decide +kernel) rfl rfl (Nat.le_of_ble_eq_true rfl) dX1_reckon_48 (fun H locs hP _ hS => ?_)
          have hP : va_P (dC, dI) vwCl (nW a k fn ft gn gt gm (nI 1) o) H := hP
          refine lv_goto (tgt := 147) hx hb dX1_reckon_51 (by decide) ?_
          exact W.vret hx hb hr (fun t ht hW => ⟨⟨(), rfl, trivial, by rw [ht]; exact hP, va_K.moved hW.alike hK⟩, hS.F ht⟩) hS.2.2 dX1_reckon_147
set_option maxHeartbeats 4000000 in
set_option maxRecDepth 100000 in
theorem m_compareB (l : Launch) (dC : Nat → ClassId) (dI : Nat → Nat → Nat) (a : Nat → Nat) (k : Nat → ClassId) (fn ft gn gt gm : Nat → Int32) (fl : Int32) (o : Nat → Int64) (hinj : nInj a) (x1 x2 x3 x4 : Int32) (hbad : (nO x1 8 || nO x2 4 || nO x3 8 || nO x4 8) = true) : Met l yX1_compare wsX1_compare ({ frames := 1, cells := 0, slots := 0, locals := 40 }) (va_Pc [.ref (a 3), .int x1, .int x2, .int x3, .int x4] (nPw dC dI a k fn ft gn gt gm fl o)) (nQi (nI 0) (nPw dC dI a k fn ft gn gt gm (nI 1) o) a) 0 0 (nA0 a) := by
  refine Met.ofW (cc := cX1_compare) (maxL := 8) (ret := (some .int)) (by decide) rfl ?_
  intro p e s m args below meth c s₁ B hml hv
  obtain ⟨rfl, hP, hK⟩ := hv
  have hx := B.exec
  have hb := B.bytes
  have hr := B.returns
  have hts := atoms_spec (ws := wsX1_compare) B.pre
  have hown : s.vm.findClass RX1 = some m.cls := findClass_of_methodNamed B.named
  have hlocks := B.notSynchronized
  have hS : va_S (nA0 a) s.heap s.heap [] := va_S.rf
  have hl := lv_entry ([.ref (a 3), .int x1, .int x2, .int x3, .int x4]) (n := 8) (Nat.le_of_ble_eq_true rfl)
  rw [lg_entry_eq]
  generalize (lg_sl ([.ref (a 3), .int x1, .int x2, .int x3, .int x4]) ++ List.replicate (8 - (lg_sl ([.ref (a 3), .int x1, .int x2, .int x3, .int x4])).length) Slot.unset).toArray = ls at hl ⊢
  have hl : lv_has ls 8 [(0, .ref (a 3)), (1, .int x1), (2, .int x2), (3, .int x3), (4, .int x4)] := hl
  refine lv_aload_n hx hb dX1_compare_0 rfl (lv_at hl 0 rfl) ?_
  refine lv_iconst (v := nI 0) hx hb dX1_compare_1 (by decide +kernel) ?_
  refine va_put (D := (dC, dI)) (ci := 1) (v := .int (nI 0)) (ty := .int) (C := RX1) (T := TX1) (N := 4) hx hb hts inX1_compare tyX1 tyX1_ok nmX1 hown hK hP (nDA hinj) hS 3 rfl rfl 0 (by decide) (hts (.fieldLink RX1 20 "NumberCircuitsModel" "failed" "I") (by decide +kernel)) (fun _ h9 => h9) rfl (by decide +kernel) rfl rfl (Nat.le_of_ble_eq_true rfl) dX1_compare_2 (fun H locs hP _ hS => ?_)
  have hP : va_P (dC, dI) vwCl (nW a k fn ft gn gt gm (nI 0) o) H := hP
  refine lv_aload_n hx hb dX1_compare_5 rfl (lv_at hl 0 rfl) ?_
  refine lv_iload_n hx hb dX1_compare_6 rfl (lv_at hl 1 rfl) ?_
  refine lv_bipush (v := nI 8) hx hb dX1_compare_7 (by decide +kernel) ?_
  refine vp_callSi (W.runV (As := [.int x1, .int (nI 8)]) (rest := []) ⟨hx, hb, hml, hown, hts⟩ (m_out l dC dI a k fn ft gn gt gm (nI 0) o x1 8) (cwV 2 hts gX1_compare_X1_out rfl rfl rfl (by decide +kernel) ⟨Nat.le_of_ble_eq_true rfl, Nat.le_of_ble_eq_true rfl⟩) (nPreV hP hK (va_recv hK hP (ci := 1) (q0 := 3) rfl rfl)) rfl rfl hl.1 rfl (lv_room (Nat.le_of_ble_eq_true rfl)) dX1_compare_9 ⟨Nat.zero_le _, Nat.zero_le _⟩) (fun r_9_1 er_9_1 => ?_)
  subst er_9_1
  refine lv_if_ne (tgt := 45) hx hb dX1_compare_12 (by decide) (fun c0 => ?_) (fun c0 => ?_)
  · refine lv_aload_n hx hb dX1_compare_45 rfl (lv_at hl 0 rfl) ?_
    refine lv_iconst (v := nI 1) hx hb dX1_compare_46 (by decide +kernel) ?_
    refine va_calli (va_runV (As := [.int (nI 1)]) (rest := []) ⟨hx, hb, hml, hown, hts⟩ (m_fail l dC dI a k fn ft gn gt gm (nI 0) o hinj (nI 1)) (cwV 1 hts gX1_compare_X1_fail rfl rfl rfl (by decide +kernel) ⟨Nat.le_of_ble_eq_true rfl, Nat.le_of_ble_eq_true rfl⟩) (nPreV hP hK (va_recv hK hP (ci := 1) (q0 := 3) rfl rfl)) rfl rfl hl.1 rfl (lv_room (Nat.le_of_ble_eq_true rfl)) dX1_compare_47 ⟨Nat.zero_le _, Nat.zero_le _⟩) hS (fun _ _ h => h) (fun _ h => h) (fun r_47_2 _ t H locs ht hvm er_47_2 hB _ _ hS => ?_)
    subst er_47_2
    have hP : va_P (dC, dI) vwCl (nW a k fn ft gn gt gm (nI 1) o) H := by rw [← ht]; exact hB.1
    exact W.iret hx hb hr (fun t ht hW => ⟨⟨_, (), rfl, rfl, by rw [ht]; exact hP, va_K.moved hW.alike hK⟩, hS.F ht⟩) hS.2.2 dX1_compare_50
  · refine lv_aload_n hx hb dX1_compare_15 rfl (lv_at hl 0 rfl) ?_
    refine lv_iload_n hx hb dX1_compare_16 rfl (lv_at hl 2 rfl) ?_
    refine lv_iconst (v := nI 4) hx hb dX1_compare_17 (by decide +kernel) ?_
    refine vp_callSi (W.runV (As := [.int x2, .int (nI 4)]) (rest := []) ⟨hx, hb, hml, hown, hts⟩ (m_out l dC dI a k fn ft gn gt gm (nI 0) o x2 4) (cwV 2 hts gX1_compare_X1_out rfl rfl rfl (by decide +kernel) ⟨Nat.le_of_ble_eq_true rfl, Nat.le_of_ble_eq_true rfl⟩) (nPreV hP hK (va_recv hK hP (ci := 1) (q0 := 3) rfl rfl)) rfl rfl hl.1 rfl (lv_room (Nat.le_of_ble_eq_true rfl)) dX1_compare_18 ⟨Nat.zero_le _, Nat.zero_le _⟩) (fun r_18_2 er_18_2 => ?_)
    subst er_18_2
    refine lv_if_ne (tgt := 45) hx hb dX1_compare_21 (by decide) (fun c1 => ?_) (fun c1 => ?_)
    · refine lv_aload_n hx hb dX1_compare_45 rfl (lv_at hl 0 rfl) ?_
      refine lv_iconst (v := nI 1) hx hb dX1_compare_46 (by decide +kernel) ?_
      refine va_calli (va_runV (As := [.int (nI 1)]) (rest := []) ⟨hx, hb, hml, hown, hts⟩ (m_fail l dC dI a k fn ft gn gt gm (nI 0) o hinj (nI 1)) (cwV 1 hts gX1_compare_X1_fail rfl rfl rfl (by decide +kernel) ⟨Nat.le_of_ble_eq_true rfl, Nat.le_of_ble_eq_true rfl⟩) (nPreV hP hK (va_recv hK hP (ci := 1) (q0 := 3) rfl rfl)) rfl rfl hl.1 rfl (lv_room (Nat.le_of_ble_eq_true rfl)) dX1_compare_47 ⟨Nat.zero_le _, Nat.zero_le _⟩) hS (fun _ _ h => h) (fun _ h => h) (fun r_47_3 _ t H locs ht hvm er_47_3 hB _ _ hS => ?_)
      subst er_47_3
      have hP : va_P (dC, dI) vwCl (nW a k fn ft gn gt gm (nI 1) o) H := by rw [← ht]; exact hB.1
      exact W.iret hx hb hr (fun t ht hW => ⟨⟨_, (), rfl, rfl, by rw [ht]; exact hP, va_K.moved hW.alike hK⟩, hS.F ht⟩) hS.2.2 dX1_compare_50
    · refine lv_aload_n hx hb dX1_compare_24 rfl (lv_at hl 0 rfl) ?_
      refine lv_iload_n hx hb dX1_compare_25 rfl (lv_at hl 3 rfl) ?_
      refine lv_bipush (v := nI 8) hx hb dX1_compare_26 (by decide +kernel) ?_
      refine vp_callSi (W.runV (As := [.int x3, .int (nI 8)]) (rest := []) ⟨hx, hb, hml, hown, hts⟩ (m_out l dC dI a k fn ft gn gt gm (nI 0) o x3 8) (cwV 2 hts gX1_compare_X1_out rfl rfl rfl (by decide +kernel) ⟨Nat.le_of_ble_eq_true rfl, Nat.le_of_ble_eq_true rfl⟩) (nPreV hP hK (va_recv hK hP (ci := 1) (q0 := 3) rfl rfl)) rfl rfl hl.1 rfl (lv_room (Nat.le_of_ble_eq_true rfl)) dX1_compare_28 ⟨Nat.zero_le _, Nat.zero_le _⟩) (fun r_28_3 er_28_3 => ?_)
      subst er_28_3
      refine lv_if_ne (tgt := 45) hx hb dX1_compare_31 (by decide) (fun c2 => ?_) (fun c2 => ?_)
      · refine lv_aload_n hx hb dX1_compare_45 rfl (lv_at hl 0 rfl) ?_
        refine lv_iconst (v := nI 1) hx hb dX1_compare_46 (by decide +kernel) ?_
        refine va_calli (va_runV (As := [.int (nI 1)]) (rest := []) ⟨hx, hb, hml, hown, hts⟩ (m_fail l dC dI a k fn ft gn gt gm (nI 0) o hinj (nI 1)) (cwV 1 hts gX1_compare_X1_fail rfl rfl rfl (by decide +kernel) ⟨Nat.le_of_ble_eq_true rfl, Nat.le_of_ble_eq_true rfl⟩) (nPreV hP hK (va_recv hK hP (ci := 1) (q0 := 3) rfl rfl)) rfl rfl hl.1 rfl (lv_room (Nat.le_of_ble_eq_true rfl)) dX1_compare_47 ⟨Nat.zero_le _, Nat.zero_le _⟩) hS (fun _ _ h => h) (fun _ h => h) (fun r_47_4 _ t H locs ht hvm er_47_4 hB _ _ hS => ?_)
        subst er_47_4
        have hP : va_P (dC, dI) vwCl (nW a k fn ft gn gt gm (nI 1) o) H := by rw [← ht]; exact hB.1
        exact W.iret hx hb hr (fun t ht hW => ⟨⟨_, (), rfl, rfl, by rw [ht]; exact hP, va_K.moved hW.alike hK⟩, hS.F ht⟩) hS.2.2 dX1_compare_50
      · refine lv_aload_n hx hb dX1_compare_34 rfl (lv_at hl 0 rfl) ?_
        refine lv_iload hx hb dX1_compare_35 (lv_at hl 4 rfl) ?_
        refine lv_bipush (v := nI 8) hx hb dX1_compare_37 (by decide +kernel) ?_
        refine vp_callSi (W.runV (As := [.int x4, .int (nI 8)]) (rest := []) ⟨hx, hb, hml, hown, hts⟩ (m_out l dC dI a k fn ft gn gt gm (nI 0) o x4 8) (cwV 2 hts gX1_compare_X1_out rfl rfl rfl (by decide +kernel) ⟨Nat.le_of_ble_eq_true rfl, Nat.le_of_ble_eq_true rfl⟩) (nPreV hP hK (va_recv hK hP (ci := 1) (q0 := 3) rfl rfl)) rfl rfl hl.1 rfl (lv_room (Nat.le_of_ble_eq_true rfl)) dX1_compare_39 ⟨Nat.zero_le _, Nat.zero_le _⟩) (fun r_39_4 er_39_4 => ?_)
        subst er_39_4
        refine lv_if_eq (tgt := 51) hx hb dX1_compare_42 (by decide) (fun c3 => ?_) (fun c3 => ?_)
        · exact absurd hbad (by rw [nb_f c0, nb_f c1, nb_f c2, nb_f c3]; decide)
        · refine lv_aload_n hx hb dX1_compare_45 rfl (lv_at hl 0 rfl) ?_
          refine lv_iconst (v := nI 1) hx hb dX1_compare_46 (by decide +kernel) ?_
          refine va_calli (va_runV (As := [.int (nI 1)]) (rest := []) ⟨hx, hb, hml, hown, hts⟩ (m_fail l dC dI a k fn ft gn gt gm (nI 0) o hinj (nI 1)) (cwV 1 hts gX1_compare_X1_fail rfl rfl rfl (by decide +kernel) ⟨Nat.le_of_ble_eq_true rfl, Nat.le_of_ble_eq_true rfl⟩) (nPreV hP hK (va_recv hK hP (ci := 1) (q0 := 3) rfl rfl)) rfl rfl hl.1 rfl (lv_room (Nat.le_of_ble_eq_true rfl)) dX1_compare_47 ⟨Nat.zero_le _, Nat.zero_le _⟩) hS (fun _ _ h => h) (fun _ h => h) (fun r_47_5 _ t H locs ht hvm er_47_5 hB _ _ hS => ?_)
          subst er_47_5
          have hP : va_P (dC, dI) vwCl (nW a k fn ft gn gt gm (nI 1) o) H := by rw [← ht]; exact hB.1
          exact W.iret hx hb hr (fun t ht hW => ⟨⟨_, (), rfl, rfl, by rw [ht]; exact hP, va_K.moved hW.alike hK⟩, hS.F ht⟩) hS.2.2 dX1_compare_50
set_option maxHeartbeats 4000000 in
set_option maxRecDepth 100000 in
theorem m_chooseB (l : Launch) (dC : Nat → ClassId) (dI : Nat → Nat → Nat) (a : Nat → Nat) (k : Nat → ClassId) (fn ft gn gt gm : Nat → Int32) (fl : Int32) (o : Nat → Int64) (hinj : nInj a) (x1 x2 x3 x4 : Int32) (hbad : (nO x1 8 || nO x2 8 || nO x3 8 || nO x4 8) = true) : Met l yX1_choose wsX1_choose ({ frames := 1, cells := 0, slots := 0, locals := 40 }) (va_Pc [.ref (a 3), .int x1, .int x2, .int x3, .int x4] (nPw dC dI a k fn ft gn gt gm fl o)) (nQv (nPw dC dI a k fn ft gn gt gm (nI 1) o) a) 0 0 (nA0 a) := by
  refine Met.ofW (cc := cX1_choose) (maxL := 6) (ret := none) (by decide) rfl ?_
  intro p e s m args below meth c s₁ B hml hv
  obtain ⟨rfl, hP, hK⟩ := hv
  have hx := B.exec
  have hb := B.bytes
  have hr := B.returns
  have hts := atoms_spec (ws := wsX1_choose) B.pre
  have hown : s.vm.findClass RX1 = some m.cls := findClass_of_methodNamed B.named
  have hlocks := B.notSynchronized
  have hS : va_S (nA0 a) s.heap s.heap [] := va_S.rf
  have hl := lv_entry ([.ref (a 3), .int x1, .int x2, .int x3, .int x4]) (n := 6) (Nat.le_of_ble_eq_true rfl)
  rw [lg_entry_eq]
  generalize (lg_sl ([.ref (a 3), .int x1, .int x2, .int x3, .int x4]) ++ List.replicate (6 - (lg_sl ([.ref (a 3), .int x1, .int x2, .int x3, .int x4])).length) Slot.unset).toArray = ls at hl ⊢
  have hl : lv_has ls 6 [(0, .ref (a 3)), (1, .int x1), (2, .int x2), (3, .int x3), (4, .int x4)] := hl
  refine lv_aload_n hx hb dX1_choose_0 rfl (lv_at hl 0 rfl) ?_
  refine lv_iconst (v := nI 0) hx hb dX1_choose_1 (by decide +kernel) ?_
  refine va_put (D := (dC, dI)) (ci := 1) (v := .int (nI 0)) (ty := .int) (C := RX1) (T := TX1) (N := 4) hx hb hts inX1_choose tyX1 tyX1_ok nmX1 hown hK hP (nDA hinj) hS 3 rfl rfl 0 (by decide) (hts (.fieldLink RX1 20 "NumberCircuitsModel" "failed" "I") (by decide +kernel)) (fun _ h9 => h9) rfl (by decide +kernel) rfl rfl (Nat.le_of_ble_eq_true rfl) dX1_choose_2 (fun H locs hP _ hS => ?_)
  have hP : va_P (dC, dI) vwCl (nW a k fn ft gn gt gm (nI 0) o) H := hP
  refine lv_aload_n hx hb dX1_choose_5 rfl (lv_at hl 0 rfl) ?_
  refine lv_iload_n hx hb dX1_choose_6 rfl (lv_at hl 1 rfl) ?_
  refine lv_bipush (v := nI 8) hx hb dX1_choose_7 (by decide +kernel) ?_
  refine vp_callSi (W.runV (As := [.int x1, .int (nI 8)]) (rest := []) ⟨hx, hb, hml, hown, hts⟩ (m_out l dC dI a k fn ft gn gt gm (nI 0) o x1 8) (cwV 2 hts gX1_choose_X1_out rfl rfl rfl (by decide +kernel) ⟨Nat.le_of_ble_eq_true rfl, Nat.le_of_ble_eq_true rfl⟩) (nPreV hP hK (va_recv hK hP (ci := 1) (q0 := 3) rfl rfl)) rfl rfl hl.1 rfl (lv_room (Nat.le_of_ble_eq_true rfl)) dX1_choose_9 ⟨Nat.zero_le _, Nat.zero_le _⟩) (fun r_9_1 er_9_1 => ?_)
  subst er_9_1
  refine lv_if_ne (tgt := 46) hx hb dX1_choose_12 (by decide) (fun c0 => ?_) (fun c0 => ?_)
  · refine lv_aload_n hx hb dX1_choose_46 rfl (lv_at hl 0 rfl) ?_
    refine lv_iconst (v := nI 1) hx hb dX1_choose_47 (by decide +kernel) ?_
    refine va_put (D := (dC, dI)) (ci := 1) (v := .int (nI 1)) (ty := .int) (C := RX1) (T := TX1) (N := 4) hx hb hts inX1_choose tyX1 tyX1_ok nmX1 hown hK hP (nDA hinj) hS 3 rfl rfl 0 (by decide) (hts (.fieldLink RX1 20 "NumberCircuitsModel" "failed" "I") (by decide +kernel)) (fun _ h9 => h9) rfl (by decide +kernel) rfl rfl (Nat.le_of_ble_eq_true rfl) dX1_choose_48 (fun H locs hP _ hS => ?_)
    have hP : va_P (dC, dI) vwCl (nW a k fn ft gn gt gm (nI 1) o) H := hP
    refine lv_goto (tgt := 149) hx hb dX1_choose_51 (by decide) ?_
    exact W.vret hx hb hr (fun t ht hW => ⟨⟨(), rfl, trivial, by rw [ht]; exact hP, va_K.moved hW.alike hK⟩, hS.F ht⟩) hS.2.2 dX1_choose_149
  · refine lv_aload_n hx hb dX1_choose_15 rfl (lv_at hl 0 rfl) ?_
    refine lv_iload_n hx hb dX1_choose_16 rfl (lv_at hl 2 rfl) ?_
    refine lv_bipush (v := nI 8) hx hb dX1_choose_17 (by decide +kernel) ?_
    refine vp_callSi (W.runV (As := [.int x2, .int (nI 8)]) (rest := []) ⟨hx, hb, hml, hown, hts⟩ (m_out l dC dI a k fn ft gn gt gm (nI 0) o x2 8) (cwV 2 hts gX1_choose_X1_out rfl rfl rfl (by decide +kernel) ⟨Nat.le_of_ble_eq_true rfl, Nat.le_of_ble_eq_true rfl⟩) (nPreV hP hK (va_recv hK hP (ci := 1) (q0 := 3) rfl rfl)) rfl rfl hl.1 rfl (lv_room (Nat.le_of_ble_eq_true rfl)) dX1_choose_19 ⟨Nat.zero_le _, Nat.zero_le _⟩) (fun r_19_2 er_19_2 => ?_)
    subst er_19_2
    refine lv_if_ne (tgt := 46) hx hb dX1_choose_22 (by decide) (fun c1 => ?_) (fun c1 => ?_)
    · refine lv_aload_n hx hb dX1_choose_46 rfl (lv_at hl 0 rfl) ?_
      refine lv_iconst (v := nI 1) hx hb dX1_choose_47 (by decide +kernel) ?_
      refine va_put (D := (dC, dI)) (ci := 1) (v := .int (nI 1)) (ty := .int) (C := RX1) (T := TX1) (N := 4) hx hb hts inX1_choose tyX1 tyX1_ok nmX1 hown hK hP (nDA hinj) hS 3 rfl rfl 0 (by decide) (hts (.fieldLink RX1 20 "NumberCircuitsModel" "failed" "I") (by decide +kernel)) (fun _ h9 => h9) rfl (by decide +kernel) rfl rfl (Nat.le_of_ble_eq_true rfl) dX1_choose_48 (fun H locs hP _ hS => ?_)
      have hP : va_P (dC, dI) vwCl (nW a k fn ft gn gt gm (nI 1) o) H := hP
      refine lv_goto (tgt := 149) hx hb dX1_choose_51 (by decide) ?_
      exact W.vret hx hb hr (fun t ht hW => ⟨⟨(), rfl, trivial, by rw [ht]; exact hP, va_K.moved hW.alike hK⟩, hS.F ht⟩) hS.2.2 dX1_choose_149
    · refine lv_aload_n hx hb dX1_choose_25 rfl (lv_at hl 0 rfl) ?_
      refine lv_iload_n hx hb dX1_choose_26 rfl (lv_at hl 3 rfl) ?_
      refine lv_bipush (v := nI 8) hx hb dX1_choose_27 (by decide +kernel) ?_
      refine vp_callSi (W.runV (As := [.int x3, .int (nI 8)]) (rest := []) ⟨hx, hb, hml, hown, hts⟩ (m_out l dC dI a k fn ft gn gt gm (nI 0) o x3 8) (cwV 2 hts gX1_choose_X1_out rfl rfl rfl (by decide +kernel) ⟨Nat.le_of_ble_eq_true rfl, Nat.le_of_ble_eq_true rfl⟩) (nPreV hP hK (va_recv hK hP (ci := 1) (q0 := 3) rfl rfl)) rfl rfl hl.1 rfl (lv_room (Nat.le_of_ble_eq_true rfl)) dX1_choose_29 ⟨Nat.zero_le _, Nat.zero_le _⟩) (fun r_29_3 er_29_3 => ?_)
      subst er_29_3
      refine lv_if_ne (tgt := 46) hx hb dX1_choose_32 (by decide) (fun c2 => ?_) (fun c2 => ?_)
      · refine lv_aload_n hx hb dX1_choose_46 rfl (lv_at hl 0 rfl) ?_
        refine lv_iconst (v := nI 1) hx hb dX1_choose_47 (by decide +kernel) ?_
        refine va_put (D := (dC, dI)) (ci := 1) (v := .int (nI 1)) (ty := .int) (C := RX1) (T := TX1) (N := 4) hx hb hts inX1_choose tyX1 tyX1_ok nmX1 hown hK hP (nDA hinj) hS 3 rfl rfl 0 (by decide) (hts (.fieldLink RX1 20 "NumberCircuitsModel" "failed" "I") (by decide +kernel)) (fun _ h9 => h9) rfl (by decide +kernel) rfl rfl (Nat.le_of_ble_eq_true rfl) dX1_choose_48 (fun H locs hP _ hS => ?_)
        have hP : va_P (dC, dI) vwCl (nW a k fn ft gn gt gm (nI 1) o) H := hP
        refine lv_goto (tgt := 149) hx hb dX1_choose_51 (by decide) ?_
        exact W.vret hx hb hr (fun t ht hW => ⟨⟨(), rfl, trivial, by rw [ht]; exact hP, va_K.moved hW.alike hK⟩, hS.F ht⟩) hS.2.2 dX1_choose_149
      · refine lv_aload_n hx hb dX1_choose_35 rfl (lv_at hl 0 rfl) ?_
        refine lv_iload hx hb dX1_choose_36 (lv_at hl 4 rfl) ?_
        refine lv_bipush (v := nI 8) hx hb dX1_choose_38 (by decide +kernel) ?_
        refine vp_callSi (W.runV (As := [.int x4, .int (nI 8)]) (rest := []) ⟨hx, hb, hml, hown, hts⟩ (m_out l dC dI a k fn ft gn gt gm (nI 0) o x4 8) (cwV 2 hts gX1_choose_X1_out rfl rfl rfl (by decide +kernel) ⟨Nat.le_of_ble_eq_true rfl, Nat.le_of_ble_eq_true rfl⟩) (nPreV hP hK (va_recv hK hP (ci := 1) (q0 := 3) rfl rfl)) rfl rfl hl.1 rfl (lv_room (Nat.le_of_ble_eq_true rfl)) dX1_choose_40 ⟨Nat.zero_le _, Nat.zero_le _⟩) (fun r_40_4 er_40_4 => ?_)
        subst er_40_4
        refine lv_if_eq (tgt := 54) hx hb dX1_choose_43 (by decide) (fun c3 => ?_) (fun c3 => ?_)
        · exact absurd hbad (by rw [nb_f c0, nb_f c1, nb_f c2, nb_f c3]; decide)
        · refine lv_aload_n hx hb dX1_choose_46 rfl (lv_at hl 0 rfl) ?_
          refine lv_iconst (v := nI 1) hx hb dX1_choose_47 (by decide +kernel) ?_
          refine va_put (D := (dC, dI)) (ci := 1) (v := .int (nI 1)) (ty := .int) (C := RX1) (T := TX1) (N := 4) hx hb hts inX1_choose tyX1 tyX1_ok nmX1 hown hK hP (nDA hinj) hS 3 rfl rfl 0 (by decide) (hts (.fieldLink RX1 20 "NumberCircuitsModel" "failed" "I") (by decide +kernel)) (fun _ h9 => h9) rfl (by decide +kernel) rfl rfl (Nat.le_of_ble_eq_true rfl) dX1_choose_48 (fun H locs hP _ hS => ?_)
          have hP : va_P (dC, dI) vwCl (nW a k fn ft gn gt gm (nI 1) o) H := hP
          refine lv_goto (tgt := 149) hx hb dX1_choose_51 (by decide) ?_
          exact W.vret hx hb hr (fun t ht hW => ⟨⟨(), rfl, trivial, by rw [ht]; exact hP, va_K.moved hW.alike hK⟩, hS.F ht⟩) hS.2.2 dX1_choose_149
set_option maxHeartbeats 4000000 in
set_option maxRecDepth 100000 in
theorem m_joinB (l : Launch) (dC : Nat → ClassId) (dI : Nat → Nat → Nat) (a : Nat → Nat) (k : Nat → ClassId) (fn ft gn gt gm : Nat → Int32) (fl : Int32) (o : Nat → Int64) (hinj : nInj a) (x1 x2 x3 x4 : Int32) (hbad : (nO x1 8 || nO x2 4 || nO x3 8 || nO x4 8) = true) : Met l yX1_join wsX1_join ({ frames := 1, cells := 0, slots := 0, locals := 40 }) (va_Pc [.ref (a 3), .int x1, .int x2, .int x3, .int x4] (nPw dC dI a k fn ft gn gt gm fl o)) (nQi (nI 0) (nPw dC dI a k fn ft gn gt gm (nI 1) o) a) 0 0 (nA0 a) := by
  refine Met.ofW (cc := cX1_join) (maxL := 8) (ret := (some .int)) (by decide) rfl ?_
  intro p e s m args below meth c s₁ B hml hv
  obtain ⟨rfl, hP, hK⟩ := hv
  have hx := B.exec
  have hb := B.bytes
  have hr := B.returns
  have hts := atoms_spec (ws := wsX1_join) B.pre
  have hown : s.vm.findClass RX1 = some m.cls := findClass_of_methodNamed B.named
  have hlocks := B.notSynchronized
  have hS : va_S (nA0 a) s.heap s.heap [] := va_S.rf
  have hl := lv_entry ([.ref (a 3), .int x1, .int x2, .int x3, .int x4]) (n := 8) (Nat.le_of_ble_eq_true rfl)
  rw [lg_entry_eq]
  generalize (lg_sl ([.ref (a 3), .int x1, .int x2, .int x3, .int x4]) ++ List.replicate (8 - (lg_sl ([.ref (a 3), .int x1, .int x2, .int x3, .int x4])).length) Slot.unset).toArray = ls at hl ⊢
  have hl : lv_has ls 8 [(0, .ref (a 3)), (1, .int x1), (2, .int x2), (3, .int x3), (4, .int x4)] := hl
  refine lv_aload_n hx hb dX1_join_0 rfl (lv_at hl 0 rfl) ?_
  refine lv_iconst (v := nI 0) hx hb dX1_join_1 (by decide +kernel) ?_
  refine va_put (D := (dC, dI)) (ci := 1) (v := .int (nI 0)) (ty := .int) (C := RX1) (T := TX1) (N := 4) hx hb hts inX1_join tyX1 tyX1_ok nmX1 hown hK hP (nDA hinj) hS 3 rfl rfl 0 (by decide) (hts (.fieldLink RX1 20 "NumberCircuitsModel" "failed" "I") (by decide +kernel)) (fun _ h9 => h9) rfl (by decide +kernel) rfl rfl (Nat.le_of_ble_eq_true rfl) dX1_join_2 (fun H locs hP _ hS => ?_)
  have hP : va_P (dC, dI) vwCl (nW a k fn ft gn gt gm (nI 0) o) H := hP
  refine lv_aload_n hx hb dX1_join_5 rfl (lv_at hl 0 rfl) ?_
  refine lv_iload_n hx hb dX1_join_6 rfl (lv_at hl 1 rfl) ?_
  refine lv_bipush (v := nI 8) hx hb dX1_join_7 (by decide +kernel) ?_
  refine vp_callSi (W.runV (As := [.int x1, .int (nI 8)]) (rest := []) ⟨hx, hb, hml, hown, hts⟩ (m_out l dC dI a k fn ft gn gt gm (nI 0) o x1 8) (cwV 2 hts gX1_join_X1_out rfl rfl rfl (by decide +kernel) ⟨Nat.le_of_ble_eq_true rfl, Nat.le_of_ble_eq_true rfl⟩) (nPreV hP hK (va_recv hK hP (ci := 1) (q0 := 3) rfl rfl)) rfl rfl hl.1 rfl (lv_room (Nat.le_of_ble_eq_true rfl)) dX1_join_9 ⟨Nat.zero_le _, Nat.zero_le _⟩) (fun r_9_1 er_9_1 => ?_)
  subst er_9_1
  refine lv_if_ne (tgt := 45) hx hb dX1_join_12 (by decide) (fun c0 => ?_) (fun c0 => ?_)
  · refine lv_aload_n hx hb dX1_join_45 rfl (lv_at hl 0 rfl) ?_
    refine lv_iconst (v := nI 1) hx hb dX1_join_46 (by decide +kernel) ?_
    refine va_calli (va_runV (As := [.int (nI 1)]) (rest := []) ⟨hx, hb, hml, hown, hts⟩ (m_fail l dC dI a k fn ft gn gt gm (nI 0) o hinj (nI 1)) (cwV 1 hts gX1_join_X1_fail rfl rfl rfl (by decide +kernel) ⟨Nat.le_of_ble_eq_true rfl, Nat.le_of_ble_eq_true rfl⟩) (nPreV hP hK (va_recv hK hP (ci := 1) (q0 := 3) rfl rfl)) rfl rfl hl.1 rfl (lv_room (Nat.le_of_ble_eq_true rfl)) dX1_join_47 ⟨Nat.zero_le _, Nat.zero_le _⟩) hS (fun _ _ h => h) (fun _ h => h) (fun r_47_2 _ t H locs ht hvm er_47_2 hB _ _ hS => ?_)
    subst er_47_2
    have hP : va_P (dC, dI) vwCl (nW a k fn ft gn gt gm (nI 1) o) H := by rw [← ht]; exact hB.1
    exact W.iret hx hb hr (fun t ht hW => ⟨⟨_, (), rfl, rfl, by rw [ht]; exact hP, va_K.moved hW.alike hK⟩, hS.F ht⟩) hS.2.2 dX1_join_50
  · refine lv_aload_n hx hb dX1_join_15 rfl (lv_at hl 0 rfl) ?_
    refine lv_iload_n hx hb dX1_join_16 rfl (lv_at hl 2 rfl) ?_
    refine lv_iconst (v := nI 4) hx hb dX1_join_17 (by decide +kernel) ?_
    refine vp_callSi (W.runV (As := [.int x2, .int (nI 4)]) (rest := []) ⟨hx, hb, hml, hown, hts⟩ (m_out l dC dI a k fn ft gn gt gm (nI 0) o x2 4) (cwV 2 hts gX1_join_X1_out rfl rfl rfl (by decide +kernel) ⟨Nat.le_of_ble_eq_true rfl, Nat.le_of_ble_eq_true rfl⟩) (nPreV hP hK (va_recv hK hP (ci := 1) (q0 := 3) rfl rfl)) rfl rfl hl.1 rfl (lv_room (Nat.le_of_ble_eq_true rfl)) dX1_join_18 ⟨Nat.zero_le _, Nat.zero_le _⟩) (fun r_18_2 er_18_2 => ?_)
    subst er_18_2
    refine lv_if_ne (tgt := 45) hx hb dX1_join_21 (by decide) (fun c1 => ?_) (fun c1 => ?_)
    · refine lv_aload_n hx hb dX1_join_45 rfl (lv_at hl 0 rfl) ?_
      refine lv_iconst (v := nI 1) hx hb dX1_join_46 (by decide +kernel) ?_
      refine va_calli (va_runV (As := [.int (nI 1)]) (rest := []) ⟨hx, hb, hml, hown, hts⟩ (m_fail l dC dI a k fn ft gn gt gm (nI 0) o hinj (nI 1)) (cwV 1 hts gX1_join_X1_fail rfl rfl rfl (by decide +kernel) ⟨Nat.le_of_ble_eq_true rfl, Nat.le_of_ble_eq_true rfl⟩) (nPreV hP hK (va_recv hK hP (ci := 1) (q0 := 3) rfl rfl)) rfl rfl hl.1 rfl (lv_room (Nat.le_of_ble_eq_true rfl)) dX1_join_47 ⟨Nat.zero_le _, Nat.zero_le _⟩) hS (fun _ _ h => h) (fun _ h => h) (fun r_47_3 _ t H locs ht hvm er_47_3 hB _ _ hS => ?_)
      subst er_47_3
      have hP : va_P (dC, dI) vwCl (nW a k fn ft gn gt gm (nI 1) o) H := by rw [← ht]; exact hB.1
      exact W.iret hx hb hr (fun t ht hW => ⟨⟨_, (), rfl, rfl, by rw [ht]; exact hP, va_K.moved hW.alike hK⟩, hS.F ht⟩) hS.2.2 dX1_join_50
    · refine lv_aload_n hx hb dX1_join_24 rfl (lv_at hl 0 rfl) ?_
      refine lv_iload_n hx hb dX1_join_25 rfl (lv_at hl 3 rfl) ?_
      refine lv_bipush (v := nI 8) hx hb dX1_join_26 (by decide +kernel) ?_
      refine vp_callSi (W.runV (As := [.int x3, .int (nI 8)]) (rest := []) ⟨hx, hb, hml, hown, hts⟩ (m_out l dC dI a k fn ft gn gt gm (nI 0) o x3 8) (cwV 2 hts gX1_join_X1_out rfl rfl rfl (by decide +kernel) ⟨Nat.le_of_ble_eq_true rfl, Nat.le_of_ble_eq_true rfl⟩) (nPreV hP hK (va_recv hK hP (ci := 1) (q0 := 3) rfl rfl)) rfl rfl hl.1 rfl (lv_room (Nat.le_of_ble_eq_true rfl)) dX1_join_28 ⟨Nat.zero_le _, Nat.zero_le _⟩) (fun r_28_3 er_28_3 => ?_)
      subst er_28_3
      refine lv_if_ne (tgt := 45) hx hb dX1_join_31 (by decide) (fun c2 => ?_) (fun c2 => ?_)
      · refine lv_aload_n hx hb dX1_join_45 rfl (lv_at hl 0 rfl) ?_
        refine lv_iconst (v := nI 1) hx hb dX1_join_46 (by decide +kernel) ?_
        refine va_calli (va_runV (As := [.int (nI 1)]) (rest := []) ⟨hx, hb, hml, hown, hts⟩ (m_fail l dC dI a k fn ft gn gt gm (nI 0) o hinj (nI 1)) (cwV 1 hts gX1_join_X1_fail rfl rfl rfl (by decide +kernel) ⟨Nat.le_of_ble_eq_true rfl, Nat.le_of_ble_eq_true rfl⟩) (nPreV hP hK (va_recv hK hP (ci := 1) (q0 := 3) rfl rfl)) rfl rfl hl.1 rfl (lv_room (Nat.le_of_ble_eq_true rfl)) dX1_join_47 ⟨Nat.zero_le _, Nat.zero_le _⟩) hS (fun _ _ h => h) (fun _ h => h) (fun r_47_4 _ t H locs ht hvm er_47_4 hB _ _ hS => ?_)
        subst er_47_4
        have hP : va_P (dC, dI) vwCl (nW a k fn ft gn gt gm (nI 1) o) H := by rw [← ht]; exact hB.1
        exact W.iret hx hb hr (fun t ht hW => ⟨⟨_, (), rfl, rfl, by rw [ht]; exact hP, va_K.moved hW.alike hK⟩, hS.F ht⟩) hS.2.2 dX1_join_50
      · refine lv_aload_n hx hb dX1_join_34 rfl (lv_at hl 0 rfl) ?_
        refine lv_iload hx hb dX1_join_35 (lv_at hl 4 rfl) ?_
        refine lv_bipush (v := nI 8) hx hb dX1_join_37 (by decide +kernel) ?_
        refine vp_callSi (W.runV (As := [.int x4, .int (nI 8)]) (rest := []) ⟨hx, hb, hml, hown, hts⟩ (m_out l dC dI a k fn ft gn gt gm (nI 0) o x4 8) (cwV 2 hts gX1_join_X1_out rfl rfl rfl (by decide +kernel) ⟨Nat.le_of_ble_eq_true rfl, Nat.le_of_ble_eq_true rfl⟩) (nPreV hP hK (va_recv hK hP (ci := 1) (q0 := 3) rfl rfl)) rfl rfl hl.1 rfl (lv_room (Nat.le_of_ble_eq_true rfl)) dX1_join_39 ⟨Nat.zero_le _, Nat.zero_le _⟩) (fun r_39_4 er_39_4 => ?_)
        subst er_39_4
        refine lv_if_eq (tgt := 51) hx hb dX1_join_42 (by decide) (fun c3 => ?_) (fun c3 => ?_)
        · exact absurd hbad (by rw [nb_f c0, nb_f c1, nb_f c2, nb_f c3]; decide)
        · refine lv_aload_n hx hb dX1_join_45 rfl (lv_at hl 0 rfl) ?_
          refine lv_iconst (v := nI 1) hx hb dX1_join_46 (by decide +kernel) ?_
          refine va_calli (va_runV (As := [.int (nI 1)]) (rest := []) ⟨hx, hb, hml, hown, hts⟩ (m_fail l dC dI a k fn ft gn gt gm (nI 0) o hinj (nI 1)) (cwV 1 hts gX1_join_X1_fail rfl rfl rfl (by decide +kernel) ⟨Nat.le_of_ble_eq_true rfl, Nat.le_of_ble_eq_true rfl⟩) (nPreV hP hK (va_recv hK hP (ci := 1) (q0 := 3) rfl rfl)) rfl rfl hl.1 rfl (lv_room (Nat.le_of_ble_eq_true rfl)) dX1_join_47 ⟨Nat.zero_le _, Nat.zero_le _⟩) hS (fun _ _ h => h) (fun _ h => h) (fun r_47_5 _ t H locs ht hvm er_47_5 hB _ _ hS => ?_)
          subst er_47_5
          have hP : va_P (dC, dI) vwCl (nW a k fn ft gn gt gm (nI 1) o) H := by rw [← ht]; exact hB.1
          exact W.iret hx hb hr (fun t ht hW => ⟨⟨_, (), rfl, rfl, by rw [ht]; exact hP, va_K.moved hW.alike hK⟩, hS.F ht⟩) hS.2.2 dX1_join_50
set_option maxHeartbeats 4000000 in
set_option maxRecDepth 100000 in
theorem m_valueB (l : Launch) (dC : Nat → ClassId) (dI : Nat → Nat → Nat) (a : Nat → Nat) (k : Nat → ClassId) (fn ft gn gt gm : Nat → Int32) (fl : Int32) (o : Nat → Int64) (hinj : nInj a) (x1 x2 : Int32) (hbad : (nO x1 8 || nO x2 1024) = true) : Met l yX1_value wsX1_value ({ frames := 1, cells := 0, slots := 0, locals := 40 }) (va_Pc [.ref (a 3), .int x1, .int x2] (nPw dC dI a k fn ft gn gt gm fl o)) (nQi (nI 0) (nPw dC dI a k fn ft gn gt gm (nI 1) o) a) 0 0 (nA0 a) := by
  refine Met.ofW (cc := cX1_value) (maxL := 3) (ret := (some .int)) (by decide) rfl ?_
  intro p e s m args below meth c s₁ B hml hv
  obtain ⟨rfl, hP, hK⟩ := hv
  have hx := B.exec
  have hb := B.bytes
  have hr := B.returns
  have hts := atoms_spec (ws := wsX1_value) B.pre
  have hown : s.vm.findClass RX1 = some m.cls := findClass_of_methodNamed B.named
  have hlocks := B.notSynchronized
  have hS : va_S (nA0 a) s.heap s.heap [] := va_S.rf
  have hl := lv_entry ([.ref (a 3), .int x1, .int x2]) (n := 3) (Nat.le_of_ble_eq_true rfl)
  rw [lg_entry_eq]
  generalize (lg_sl ([.ref (a 3), .int x1, .int x2]) ++ List.replicate (3 - (lg_sl ([.ref (a 3), .int x1, .int x2])).length) Slot.unset).toArray = ls at hl ⊢
  have hl : lv_has ls 3 [(0, .ref (a 3)), (1, .int x1), (2, .int x2)] := hl
  refine lv_aload_n hx hb dX1_value_0 rfl (lv_at hl 0 rfl) ?_
  refine lv_iconst (v := nI 0) hx hb dX1_value_1 (by decide +kernel) ?_
  refine va_put (D := (dC, dI)) (ci := 1) (v := .int (nI 0)) (ty := .int) (C := RX1) (T := TX1) (N := 4) hx hb hts inX1_value tyX1 tyX1_ok nmX1 hown hK hP (nDA hinj) hS 3 rfl rfl 0 (by decide) (hts (.fieldLink RX1 20 "NumberCircuitsModel" "failed" "I") (by decide +kernel)) (fun _ h9 => h9) rfl (by decide +kernel) rfl rfl (Nat.le_of_ble_eq_true rfl) dX1_value_2 (fun H locs hP _ hS => ?_)
  have hP : va_P (dC, dI) vwCl (nW a k fn ft gn gt gm (nI 0) o) H := hP
  refine lv_aload_n hx hb dX1_value_5 rfl (lv_at hl 0 rfl) ?_
  refine lv_iload_n hx hb dX1_value_6 rfl (lv_at hl 1 rfl) ?_
  refine lv_bipush (v := nI 8) hx hb dX1_value_7 (by decide +kernel) ?_
  refine vp_callSi (W.runV (As := [.int x1, .int (nI 8)]) (rest := []) ⟨hx, hb, hml, hown, hts⟩ (m_out l dC dI a k fn ft gn gt gm (nI 0) o x1 8) (cwV 2 hts gX1_value_X1_out rfl rfl rfl (by decide +kernel) ⟨Nat.le_of_ble_eq_true rfl, Nat.le_of_ble_eq_true rfl⟩) (nPreV hP hK (va_recv hK hP (ci := 1) (q0 := 3) rfl rfl)) rfl rfl hl.1 rfl (lv_room (Nat.le_of_ble_eq_true rfl)) dX1_value_9 ⟨Nat.zero_le _, Nat.zero_le _⟩) (fun r_9_1 er_9_1 => ?_)
  subst er_9_1
  refine lv_if_ne (tgt := 26) hx hb dX1_value_12 (by decide) (fun c0 => ?_) (fun c0 => ?_)
  · refine lv_aload_n hx hb dX1_value_26 rfl (lv_at hl 0 rfl) ?_
    refine lv_iconst (v := nI 1) hx hb dX1_value_27 (by decide +kernel) ?_
    refine va_calli (va_runV (As := [.int (nI 1)]) (rest := []) ⟨hx, hb, hml, hown, hts⟩ (m_fail l dC dI a k fn ft gn gt gm (nI 0) o hinj (nI 1)) (cwV 1 hts gX1_value_X1_fail rfl rfl rfl (by decide +kernel) ⟨Nat.le_of_ble_eq_true rfl, Nat.le_of_ble_eq_true rfl⟩) (nPreV hP hK (va_recv hK hP (ci := 1) (q0 := 3) rfl rfl)) rfl rfl hl.1 rfl (lv_room (Nat.le_of_ble_eq_true rfl)) dX1_value_28 ⟨Nat.zero_le _, Nat.zero_le _⟩) hS (fun _ _ h => h) (fun _ h => h) (fun r_28_2 _ t H locs ht hvm er_28_2 hB _ _ hS => ?_)
    subst er_28_2
    have hP : va_P (dC, dI) vwCl (nW a k fn ft gn gt gm (nI 1) o) H := by rw [← ht]; exact hB.1
    exact W.iret hx hb hr (fun t ht hW => ⟨⟨_, (), rfl, rfl, by rw [ht]; exact hP, va_K.moved hW.alike hK⟩, hS.F ht⟩) hS.2.2 dX1_value_31
  · refine lv_aload_n hx hb dX1_value_15 rfl (lv_at hl 0 rfl) ?_
    refine lv_iload_n hx hb dX1_value_16 rfl (lv_at hl 2 rfl) ?_
    refine lv_sipush (v := nI 1024) hx hb dX1_value_17 (by decide +kernel) ?_
    refine vp_callSi (W.runV (As := [.int x2, .int (nI 1024)]) (rest := []) ⟨hx, hb, hml, hown, hts⟩ (m_out l dC dI a k fn ft gn gt gm (nI 0) o x2 1024) (cwV 2 hts gX1_value_X1_out rfl rfl rfl (by decide +kernel) ⟨Nat.le_of_ble_eq_true rfl, Nat.le_of_ble_eq_true rfl⟩) (nPreV hP hK (va_recv hK hP (ci := 1) (q0 := 3) rfl rfl)) rfl rfl hl.1 rfl (lv_room (Nat.le_of_ble_eq_true rfl)) dX1_value_20 ⟨Nat.zero_le _, Nat.zero_le _⟩) (fun r_20_2 er_20_2 => ?_)
    subst er_20_2
    refine lv_if_eq (tgt := 32) hx hb dX1_value_23 (by decide) (fun c1 => ?_) (fun c1 => ?_)
    · exact absurd hbad (by rw [nb_f c0, nb_f c1]; decide)
    · refine lv_aload_n hx hb dX1_value_26 rfl (lv_at hl 0 rfl) ?_
      refine lv_iconst (v := nI 1) hx hb dX1_value_27 (by decide +kernel) ?_
      refine va_calli (va_runV (As := [.int (nI 1)]) (rest := []) ⟨hx, hb, hml, hown, hts⟩ (m_fail l dC dI a k fn ft gn gt gm (nI 0) o hinj (nI 1)) (cwV 1 hts gX1_value_X1_fail rfl rfl rfl (by decide +kernel) ⟨Nat.le_of_ble_eq_true rfl, Nat.le_of_ble_eq_true rfl⟩) (nPreV hP hK (va_recv hK hP (ci := 1) (q0 := 3) rfl rfl)) rfl rfl hl.1 rfl (lv_room (Nat.le_of_ble_eq_true rfl)) dX1_value_28 ⟨Nat.zero_le _, Nat.zero_le _⟩) hS (fun _ _ h => h) (fun _ h => h) (fun r_28_3 _ t H locs ht hvm er_28_3 hB _ _ hS => ?_)
      subst er_28_3
      have hP : va_P (dC, dI) vwCl (nW a k fn ft gn gt gm (nI 1) o) H := by rw [← ht]; exact hB.1
      exact W.iret hx hb hr (fun t ht hW => ⟨⟨_, (), rfl, rfl, by rw [ht]; exact hP, va_K.moved hW.alike hK⟩, hS.F ht⟩) hS.2.2 dX1_value_31
set_option maxHeartbeats 4000000 in
set_option maxRecDepth 100000 in
theorem m_wayB (l : Launch) (dC : Nat → ClassId) (dI : Nat → Nat → Nat) (a : Nat → Nat) (k : Nat → ClassId) (fn ft gn gt gm : Nat → Int32) (fl : Int32) (o : Nat → Int64) (hinj : nInj a) (x1 : Int32) (hbad : (nO x1 8) = true) : Met l yX1_way wsX1_way ({ frames := 1, cells := 0, slots := 0, locals := 40 }) (va_Pc [.ref (a 3), .int x1] (nPw dC dI a k fn ft gn gt gm fl o)) (nQi (nI 0) (nPw dC dI a k fn ft gn gt gm (nI 1) o) a) 0 0 (nA0 a) := by
  refine Met.ofW (cc := cX1_way) (maxL := 3) (ret := (some .int)) (by decide) rfl ?_
  intro p e s m args below meth c s₁ B hml hv
  obtain ⟨rfl, hP, hK⟩ := hv
  have hx := B.exec
  have hb := B.bytes
  have hr := B.returns
  have hts := atoms_spec (ws := wsX1_way) B.pre
  have hown : s.vm.findClass RX1 = some m.cls := findClass_of_methodNamed B.named
  have hlocks := B.notSynchronized
  have hS : va_S (nA0 a) s.heap s.heap [] := va_S.rf
  have hl := lv_entry ([.ref (a 3), .int x1]) (n := 3) (Nat.le_of_ble_eq_true rfl)
  rw [lg_entry_eq]
  generalize (lg_sl ([.ref (a 3), .int x1]) ++ List.replicate (3 - (lg_sl ([.ref (a 3), .int x1])).length) Slot.unset).toArray = ls at hl ⊢
  have hl : lv_has ls 3 [(0, .ref (a 3)), (1, .int x1)] := hl
  refine lv_aload_n hx hb dX1_way_0 rfl (lv_at hl 0 rfl) ?_
  refine lv_iconst (v := nI 0) hx hb dX1_way_1 (by decide +kernel) ?_
  refine va_put (D := (dC, dI)) (ci := 1) (v := .int (nI 0)) (ty := .int) (C := RX1) (T := TX1) (N := 4) hx hb hts inX1_way tyX1 tyX1_ok nmX1 hown hK hP (nDA hinj) hS 3 rfl rfl 0 (by decide) (hts (.fieldLink RX1 20 "NumberCircuitsModel" "failed" "I") (by decide +kernel)) (fun _ h9 => h9) rfl (by decide +kernel) rfl rfl (Nat.le_of_ble_eq_true rfl) dX1_way_2 (fun H locs hP _ hS => ?_)
  have hP : va_P (dC, dI) vwCl (nW a k fn ft gn gt gm (nI 0) o) H := hP
  refine lv_aload_n hx hb dX1_way_5 rfl (lv_at hl 0 rfl) ?_
  refine lv_iload_n hx hb dX1_way_6 rfl (lv_at hl 1 rfl) ?_
  refine lv_bipush (v := nI 8) hx hb dX1_way_7 (by decide +kernel) ?_
  refine vp_callSi (W.runV (As := [.int x1, .int (nI 8)]) (rest := []) ⟨hx, hb, hml, hown, hts⟩ (m_out l dC dI a k fn ft gn gt gm (nI 0) o x1 8) (cwV 2 hts gX1_way_X1_out rfl rfl rfl (by decide +kernel) ⟨Nat.le_of_ble_eq_true rfl, Nat.le_of_ble_eq_true rfl⟩) (nPreV hP hK (va_recv hK hP (ci := 1) (q0 := 3) rfl rfl)) rfl rfl hl.1 rfl (lv_room (Nat.le_of_ble_eq_true rfl)) dX1_way_9 ⟨Nat.zero_le _, Nat.zero_le _⟩) (fun r_9_1 er_9_1 => ?_)
  subst er_9_1
  refine lv_if_eq (tgt := 21) hx hb dX1_way_12 (by decide) (fun c0 => ?_) (fun c0 => ?_)
  · exact absurd hbad (by rw [nb_f c0]; decide)
  · refine lv_aload_n hx hb dX1_way_15 rfl (lv_at hl 0 rfl) ?_
    refine lv_iconst (v := nI 1) hx hb dX1_way_16 (by decide +kernel) ?_
    refine va_calli (va_runV (As := [.int (nI 1)]) (rest := []) ⟨hx, hb, hml, hown, hts⟩ (m_fail l dC dI a k fn ft gn gt gm (nI 0) o hinj (nI 1)) (cwV 1 hts gX1_way_X1_fail rfl rfl rfl (by decide +kernel) ⟨Nat.le_of_ble_eq_true rfl, Nat.le_of_ble_eq_true rfl⟩) (nPreV hP hK (va_recv hK hP (ci := 1) (q0 := 3) rfl rfl)) rfl rfl hl.1 rfl (lv_room (Nat.le_of_ble_eq_true rfl)) dX1_way_17 ⟨Nat.zero_le _, Nat.zero_le _⟩) hS (fun _ _ h => h) (fun _ h => h) (fun r_17_2 _ t H locs ht hvm er_17_2 hB _ _ hS => ?_)
    subst er_17_2
    have hP : va_P (dC, dI) vwCl (nW a k fn ft gn gt gm (nI 1) o) H := by rw [← ht]; exact hB.1
    exact W.iret hx hb hr (fun t ht hW => ⟨⟨_, (), rfl, rfl, by rw [ht]; exact hP, va_K.moved hW.alike hK⟩, hS.F ht⟩) hS.2.2 dX1_way_20
set_option maxHeartbeats 4000000 in
set_option maxRecDepth 100000 in
theorem m_sameB (l : Launch) (dC : Nat → ClassId) (dI : Nat → Nat → Nat) (a : Nat → Nat) (k : Nat → ClassId) (fn ft gn gt gm : Nat → Int32) (fl : Int32) (o : Nat → Int64) (hinj : nInj a) (x1 x2 : Int32) (hbad : (nO x1 8 || nO x2 8) = true) : Met l yX1_same wsX1_same ({ frames := 1, cells := 0, slots := 0, locals := 40 }) (va_Pc [.ref (a 3), .int x1, .int x2] (nPw dC dI a k fn ft gn gt gm fl o)) (nQi (nI 0) (nPw dC dI a k fn ft gn gt gm (nI 1) o) a) 0 0 (nA0 a) := by
  refine Met.ofW (cc := cX1_same) (maxL := 4) (ret := (some .boolean)) (by decide) rfl ?_
  intro p e s m args below meth c s₁ B hml hv
  obtain ⟨rfl, hP, hK⟩ := hv
  have hx := B.exec
  have hb := B.bytes
  have hr := B.returns
  have hts := atoms_spec (ws := wsX1_same) B.pre
  have hown : s.vm.findClass RX1 = some m.cls := findClass_of_methodNamed B.named
  have hlocks := B.notSynchronized
  have hS : va_S (nA0 a) s.heap s.heap [] := va_S.rf
  have hl := lv_entry ([.ref (a 3), .int x1, .int x2]) (n := 4) (Nat.le_of_ble_eq_true rfl)
  rw [lg_entry_eq]
  generalize (lg_sl ([.ref (a 3), .int x1, .int x2]) ++ List.replicate (4 - (lg_sl ([.ref (a 3), .int x1, .int x2])).length) Slot.unset).toArray = ls at hl ⊢
  have hl : lv_has ls 4 [(0, .ref (a 3)), (1, .int x1), (2, .int x2)] := hl
  refine lv_aload_n hx hb dX1_same_0 rfl (lv_at hl 0 rfl) ?_
  refine lv_iconst (v := nI 0) hx hb dX1_same_1 (by decide +kernel) ?_
  refine va_put (D := (dC, dI)) (ci := 1) (v := .int (nI 0)) (ty := .int) (C := RX1) (T := TX1) (N := 4) hx hb hts inX1_same tyX1 tyX1_ok nmX1 hown hK hP (nDA hinj) hS 3 rfl rfl 0 (by decide) (hts (.fieldLink RX1 20 "NumberCircuitsModel" "failed" "I") (by decide +kernel)) (fun _ h9 => h9) rfl (by decide +kernel) rfl rfl (Nat.le_of_ble_eq_true rfl) dX1_same_2 (fun H locs hP _ hS => ?_)
  have hP : va_P (dC, dI) vwCl (nW a k fn ft gn gt gm (nI 0) o) H := hP
  refine lv_aload_n hx hb dX1_same_5 rfl (lv_at hl 0 rfl) ?_
  refine lv_iload_n hx hb dX1_same_6 rfl (lv_at hl 1 rfl) ?_
  refine lv_bipush (v := nI 8) hx hb dX1_same_7 (by decide +kernel) ?_
  refine vp_callSi (W.runV (As := [.int x1, .int (nI 8)]) (rest := []) ⟨hx, hb, hml, hown, hts⟩ (m_out l dC dI a k fn ft gn gt gm (nI 0) o x1 8) (cwV 2 hts gX1_same_X1_out rfl rfl rfl (by decide +kernel) ⟨Nat.le_of_ble_eq_true rfl, Nat.le_of_ble_eq_true rfl⟩) (nPreV hP hK (va_recv hK hP (ci := 1) (q0 := 3) rfl rfl)) rfl rfl hl.1 rfl (lv_room (Nat.le_of_ble_eq_true rfl)) dX1_same_9 ⟨Nat.zero_le _, Nat.zero_le _⟩) (fun r_9_1 er_9_1 => ?_)
  subst er_9_1
  refine lv_if_ne (tgt := 25) hx hb dX1_same_12 (by decide) (fun c0 => ?_) (fun c0 => ?_)
  · refine lv_aload_n hx hb dX1_same_25 rfl (lv_at hl 0 rfl) ?_
    refine lv_iconst (v := nI 1) hx hb dX1_same_26 (by decide +kernel) ?_
    refine va_calli (va_runV (As := [.int (nI 1)]) (rest := []) ⟨hx, hb, hml, hown, hts⟩ (m_fail l dC dI a k fn ft gn gt gm (nI 0) o hinj (nI 1)) (cwV 1 hts gX1_same_X1_fail rfl rfl rfl (by decide +kernel) ⟨Nat.le_of_ble_eq_true rfl, Nat.le_of_ble_eq_true rfl⟩) (nPreV hP hK (va_recv hK hP (ci := 1) (q0 := 3) rfl rfl)) rfl rfl hl.1 rfl (lv_room (Nat.le_of_ble_eq_true rfl)) dX1_same_27 ⟨Nat.zero_le _, Nat.zero_le _⟩) hS (fun _ _ h => h) (fun _ h => h) (fun r_27_2 _ t H locs ht hvm er_27_2 hB _ _ hS => ?_)
    subst er_27_2
    have hP : va_P (dC, dI) vwCl (nW a k fn ft gn gt gm (nI 1) o) H := by rw [← ht]; exact hB.1
    refine lv_if_le (tgt := 37) hx hb dX1_same_30 (by decide) (fun _ => ?_) (fun c => absurd c (by decide +kernel))
    refine lv_iconst (v := nI 0) hx hb dX1_same_37 (by decide +kernel) ?_
    exact W.zret hx hb hr (by decide +kernel) (fun t ht hW => ⟨⟨_, (), rfl, rfl, by rw [ht]; exact hP, va_K.moved hW.alike hK⟩, hS.F ht⟩) hS.2.2 dX1_same_38
  · refine lv_aload_n hx hb dX1_same_15 rfl (lv_at hl 0 rfl) ?_
    refine lv_iload_n hx hb dX1_same_16 rfl (lv_at hl 2 rfl) ?_
    refine lv_bipush (v := nI 8) hx hb dX1_same_17 (by decide +kernel) ?_
    refine vp_callSi (W.runV (As := [.int x2, .int (nI 8)]) (rest := []) ⟨hx, hb, hml, hown, hts⟩ (m_out l dC dI a k fn ft gn gt gm (nI 0) o x2 8) (cwV 2 hts gX1_same_X1_out rfl rfl rfl (by decide +kernel) ⟨Nat.le_of_ble_eq_true rfl, Nat.le_of_ble_eq_true rfl⟩) (nPreV hP hK (va_recv hK hP (ci := 1) (q0 := 3) rfl rfl)) rfl rfl hl.1 rfl (lv_room (Nat.le_of_ble_eq_true rfl)) dX1_same_19 ⟨Nat.zero_le _, Nat.zero_le _⟩) (fun r_19_2 er_19_2 => ?_)
    subst er_19_2
    refine lv_if_eq (tgt := 39) hx hb dX1_same_22 (by decide) (fun c1 => ?_) (fun c1 => ?_)
    · exact absurd hbad (by rw [nb_f c0, nb_f c1]; decide)
    · refine lv_aload_n hx hb dX1_same_25 rfl (lv_at hl 0 rfl) ?_
      refine lv_iconst (v := nI 1) hx hb dX1_same_26 (by decide +kernel) ?_
      refine va_calli (va_runV (As := [.int (nI 1)]) (rest := []) ⟨hx, hb, hml, hown, hts⟩ (m_fail l dC dI a k fn ft gn gt gm (nI 0) o hinj (nI 1)) (cwV 1 hts gX1_same_X1_fail rfl rfl rfl (by decide +kernel) ⟨Nat.le_of_ble_eq_true rfl, Nat.le_of_ble_eq_true rfl⟩) (nPreV hP hK (va_recv hK hP (ci := 1) (q0 := 3) rfl rfl)) rfl rfl hl.1 rfl (lv_room (Nat.le_of_ble_eq_true rfl)) dX1_same_27 ⟨Nat.zero_le _, Nat.zero_le _⟩) hS (fun _ _ h => h) (fun _ h => h) (fun r_27_3 _ t H locs ht hvm er_27_3 hB _ _ hS => ?_)
      subst er_27_3
      have hP : va_P (dC, dI) vwCl (nW a k fn ft gn gt gm (nI 1) o) H := by rw [← ht]; exact hB.1
      refine lv_if_le (tgt := 37) hx hb dX1_same_30 (by decide) (fun _ => ?_) (fun c => absurd c (by decide +kernel))
      refine lv_iconst (v := nI 0) hx hb dX1_same_37 (by decide +kernel) ?_
      exact W.zret hx hb hr (by decide +kernel) (fun t ht hW => ⟨⟨_, (), rfl, rfl, by rw [ht]; exact hP, va_K.moved hW.alike hK⟩, hS.F ht⟩) hS.2.2 dX1_same_38
set_option maxHeartbeats 4000000 in
set_option maxRecDepth 100000 in
theorem m_tidyB (l : Launch) (dC : Nat → ClassId) (dI : Nat → Nat → Nat) (a : Nat → Nat) (k : Nat → ClassId) (fn ft gn gt gm : Nat → Int32) (fl : Int32) (o : Nat → Int64) (hinj : nInj a) (x1 : Int32) (hbad : (nO x1 3) = true) : Met l yX1_tidy wsX1_tidy ({ frames := 1, cells := 0, slots := 0, locals := 40 }) (va_Pc [.ref (a 3), .int x1] (nPw dC dI a k fn ft gn gt gm fl o)) (nQi (nI 0) (nPw dC dI a k fn ft gn gt gm (nI 1) o) a) 0 0 (nA0 a) := by
  refine Met.ofW (cc := cX1_tidy) (maxL := 6) (ret := (some .int)) (by decide) rfl ?_
  intro p e s m args below meth c s₁ B hml hv
  obtain ⟨rfl, hP, hK⟩ := hv
  have hx := B.exec
  have hb := B.bytes
  have hr := B.returns
  have hts := atoms_spec (ws := wsX1_tidy) B.pre
  have hown : s.vm.findClass RX1 = some m.cls := findClass_of_methodNamed B.named
  have hlocks := B.notSynchronized
  have hS : va_S (nA0 a) s.heap s.heap [] := va_S.rf
  have hl := lv_entry ([.ref (a 3), .int x1]) (n := 6) (Nat.le_of_ble_eq_true rfl)
  rw [lg_entry_eq]
  generalize (lg_sl ([.ref (a 3), .int x1]) ++ List.replicate (6 - (lg_sl ([.ref (a 3), .int x1])).length) Slot.unset).toArray = ls at hl ⊢
  have hl : lv_has ls 6 [(0, .ref (a 3)), (1, .int x1)] := hl
  refine lv_aload_n hx hb dX1_tidy_0 rfl (lv_at hl 0 rfl) ?_
  refine lv_iconst (v := nI 0) hx hb dX1_tidy_1 (by decide +kernel) ?_
  refine va_put (D := (dC, dI)) (ci := 1) (v := .int (nI 0)) (ty := .int) (C := RX1) (T := TX1) (N := 4) hx hb hts inX1_tidy tyX1 tyX1_ok nmX1 hown hK hP (nDA hinj) hS 3 rfl rfl 0 (by decide) (hts (.fieldLink RX1 20 "NumberCircuitsModel" "failed" "I") (by decide +kernel)) (fun _ h9 => h9) rfl (by decide +kernel) rfl rfl (Nat.le_of_ble_eq_true rfl) dX1_tidy_2 (fun H locs hP _ hS => ?_)
  have hP : va_P (dC, dI) vwCl (nW a k fn ft gn gt gm (nI 0) o) H := hP
  refine lv_aload_n hx hb dX1_tidy_5 rfl (lv_at hl 0 rfl) ?_
  refine lv_iload_n hx hb dX1_tidy_6 rfl (lv_at hl 1 rfl) ?_
  refine lv_iconst (v := nI 3) hx hb dX1_tidy_7 (by decide +kernel) ?_
  refine vp_callSi (W.runV (As := [.int x1, .int (nI 3)]) (rest := []) ⟨hx, hb, hml, hown, hts⟩ (m_out l dC dI a k fn ft gn gt gm (nI 0) o x1 3) (cwV 2 hts gX1_tidy_X1_out rfl rfl rfl (by decide +kernel) ⟨Nat.le_of_ble_eq_true rfl, Nat.le_of_ble_eq_true rfl⟩) (nPreV hP hK (va_recv hK hP (ci := 1) (q0 := 3) rfl rfl)) rfl rfl hl.1 rfl (lv_room (Nat.le_of_ble_eq_true rfl)) dX1_tidy_8 ⟨Nat.zero_le _, Nat.zero_le _⟩) (fun r_8_1 er_8_1 => ?_)
  subst er_8_1
  refine lv_if_eq (tgt := 20) hx hb dX1_tidy_11 (by decide) (fun c0 => ?_) (fun c0 => ?_)
  · exact absurd hbad (by rw [nb_f c0]; decide)
  · refine lv_aload_n hx hb dX1_tidy_14 rfl (lv_at hl 0 rfl) ?_
    refine lv_iconst (v := nI 1) hx hb dX1_tidy_15 (by decide +kernel) ?_
    refine va_calli (va_runV (As := [.int (nI 1)]) (rest := []) ⟨hx, hb, hml, hown, hts⟩ (m_fail l dC dI a k fn ft gn gt gm (nI 0) o hinj (nI 1)) (cwV 1 hts gX1_tidy_X1_fail rfl rfl rfl (by decide +kernel) ⟨Nat.le_of_ble_eq_true rfl, Nat.le_of_ble_eq_true rfl⟩) (nPreV hP hK (va_recv hK hP (ci := 1) (q0 := 3) rfl rfl)) rfl rfl hl.1 rfl (lv_room (Nat.le_of_ble_eq_true rfl)) dX1_tidy_16 ⟨Nat.zero_le _, Nat.zero_le _⟩) hS (fun _ _ h => h) (fun _ h => h) (fun r_16_2 _ t H locs ht hvm er_16_2 hB _ _ hS => ?_)
    subst er_16_2
    have hP : va_P (dC, dI) vwCl (nW a k fn ft gn gt gm (nI 1) o) H := by rw [← ht]; exact hB.1
    exact W.iret hx hb hr (fun t ht hW => ⟨⟨_, (), rfl, rfl, by rw [ht]; exact hP, va_K.moved hW.alike hK⟩, hS.F ht⟩) hS.2.2 dX1_tidy_19
