def nl (b : Bool) : Int64 := if b then 1 else 0
set_option maxHeartbeats 4000000 in
set_option maxRecDepth 100000 in
theorem w_constant (l : Launch) (dC : Nat → ClassId) (dI : Nat → Nat → Nat) (a : Nat → Nat) (k : Nat → ClassId) (fn ft gn gt gm : Nat → Int32) (fl : Int32) (o : Nat → Int64) (hinj : nInj a) (sl : Nat) (v : Int32) (hsl : sl < 8) : Met l yL_constant wsL_constant ({ frames := 3, cells := 0, slots := 0, locals := 96 }) (va_Pc [.ref (a 0), .int (nI sl), .int v] (nPw dC dI a k fn ft gn gt gm fl o)) (nQi (nI 0) (nPw dC dI a k (nF fn (1024 * sl) 1024 (nvK v)) ft gn gt gm fl o) a) 0 0 (nA0 a) := by
  refine va_MetW (cc := cL_constant) (maxL := 4) (ret := (some .int)) (by decide) rfl ?_
  intro p e s m args below meth c s₁ B hml hv
  obtain ⟨rfl, hP, hK⟩ := hv
  have hx := B.exec
  have hb := B.bytes
  have hr := B.returns
  have hts := atoms_spec (ws := wsL_constant) B.pre
  have hown : s.vm.findClass RL = some m.cls := findClass_of_methodNamed B.named
  have hlocks := B.notSynchronized
  have hS : va_S (nA0 a) s.heap s.heap [] := va_S.rf
  have hl := lv_entry ([.ref (a 0), .int (nI sl), .int v]) (n := 4) (Nat.le_of_ble_eq_true rfl)
  rw [lg_entry_eq]
  generalize (lg_sl ([.ref (a 0), .int (nI sl), .int v]) ++ List.replicate (4 - (lg_sl ([.ref (a 0), .int (nI sl), .int v])).length) Slot.unset).toArray = ls at hl ⊢
  have hl : lv_has ls 4 [(0, .ref (a 0)), (1, .int (nI sl)), (2, .int v)] := hl
  refine lv_aload_n hx hb dL_constant_0 rfl (lv_at hl 0 rfl) ?_
  refine lv_iload_n hx hb dL_constant_1 rfl (lv_at hl 1 rfl) ?_
  refine lv_iload_n hx hb dL_constant_2 rfl (lv_at hl 2 rfl) ?_
  refine va_callv (va_runV (As := [.int (nI sl), .int v]) (rest := []) ⟨hx, hb, hml, hown, hts⟩ (c_constant l dC dI a k fn ft gn gt gm fl o hinj sl v hsl) (cwV 2 hts gL_constant_X0_constant rfl rfl rfl (by decide +kernel) ⟨Nat.le_of_ble_eq_true rfl, Nat.le_of_ble_eq_true rfl⟩) (nPreV hP hK (va_recv hK hP (ci := 0) (q0 := 0) rfl rfl)) rfl rfl hl.1 rfl (lv_room (Nat.le_of_ble_eq_true rfl)) dL_constant_3 ⟨Nat.zero_le _, Nat.zero_le _⟩) hS (fun _ _ h => h) (fun _ h => h) (fun _ t H locs ht hvm _ hB _ _ hS => ?_)
  have hP : va_P (dC, dI) vwCl (nW a k (nF fn (1024 * sl) 1024 (nvK v)) ft gn gt gm fl o) H := by rw [← ht]; exact hB.1
  refine lv_goto (tgt := 12) hx hb dL_constant_6 (by decide) ?_
  refine lv_iconst (v := nI 0) hx hb dL_constant_12 (by decide +kernel) ?_
  exact W.iret hx hb hr (fun t ht hW => ⟨⟨_, (), rfl, rfl, by rw [ht]; exact hP, va_K.moved hW.alike hK⟩, hS.F ht⟩) hS.2.2 dL_constant_13
set_option maxHeartbeats 4000000 in
set_option maxRecDepth 100000 in
theorem w_unknown (l : Launch) (dC : Nat → ClassId) (dI : Nat → Nat → Nat) (a : Nat → Nat) (k : Nat → ClassId) (fn ft gn gt gm : Nat → Int32) (fl : Int32) (o : Nat → Int64) (hinj : nInj a) (sl fi ct : Nat) (lo : Int32) (hsl : sl < 8) (hfi : fi ≤ 10) (hct : fi + ct ≤ 10) : Met l yL_unknown wsL_unknown ({ frames := 3, cells := 0, slots := 0, locals := 96 }) (va_Pc [.ref (a 0), .int (nI sl), .int (nI fi), .int (nI ct), .int lo] (nPw dC dI a k fn ft gn gt gm fl o)) (nQi (nI 0) (nPw dC dI a k (nF fn (1024 * sl) 1024 (nvU fi ct lo)) ft gn gt gm fl o) a) 0 0 (nA0 a) := by
  refine va_MetW (cc := cL_unknown) (maxL := 6) (ret := (some .int)) (by decide) rfl ?_
  intro p e s m args below meth c s₁ B hml hv
  obtain ⟨rfl, hP, hK⟩ := hv
  have hx := B.exec
  have hb := B.bytes
  have hr := B.returns
  have hts := atoms_spec (ws := wsL_unknown) B.pre
  have hown : s.vm.findClass RL = some m.cls := findClass_of_methodNamed B.named
  have hlocks := B.notSynchronized
  have hS : va_S (nA0 a) s.heap s.heap [] := va_S.rf
  have hl := lv_entry ([.ref (a 0), .int (nI sl), .int (nI fi), .int (nI ct), .int lo]) (n := 6) (Nat.le_of_ble_eq_true rfl)
  rw [lg_entry_eq]
  generalize (lg_sl ([.ref (a 0), .int (nI sl), .int (nI fi), .int (nI ct), .int lo]) ++ List.replicate (6 - (lg_sl ([.ref (a 0), .int (nI sl), .int (nI fi), .int (nI ct), .int lo])).length) Slot.unset).toArray = ls at hl ⊢
  have hl : lv_has ls 6 [(0, .ref (a 0)), (1, .int (nI sl)), (2, .int (nI fi)), (3, .int (nI ct)), (4, .int lo)] := hl
  refine lv_aload_n hx hb dL_unknown_0 rfl (lv_at hl 0 rfl) ?_
  refine lv_iload_n hx hb dL_unknown_1 rfl (lv_at hl 1 rfl) ?_
  refine lv_iload_n hx hb dL_unknown_2 rfl (lv_at hl 2 rfl) ?_
  refine lv_iload_n hx hb dL_unknown_3 rfl (lv_at hl 3 rfl) ?_
  refine lv_iload hx hb dL_unknown_4 (lv_at hl 4 rfl) ?_
  refine va_callv (va_runV (As := [.int (nI sl), .int (nI fi), .int (nI ct), .int lo]) (rest := []) ⟨hx, hb, hml, hown, hts⟩ (c_unknown l dC dI a k fn ft gn gt gm fl o hinj sl fi ct lo hsl hfi hct) (cwV 4 hts gL_unknown_X0_unknown rfl rfl rfl (by decide +kernel) ⟨Nat.le_of_ble_eq_true rfl, Nat.le_of_ble_eq_true rfl⟩) (nPreV hP hK (va_recv hK hP (ci := 0) (q0 := 0) rfl rfl)) rfl rfl hl.1 rfl (lv_room (Nat.le_of_ble_eq_true rfl)) dL_unknown_6 ⟨Nat.zero_le _, Nat.zero_le _⟩) hS (fun _ _ h => h) (fun _ h => h) (fun _ t H locs ht hvm _ hB _ _ hS => ?_)
  have hP : va_P (dC, dI) vwCl (nW a k (nF fn (1024 * sl) 1024 (nvU fi ct lo)) ft gn gt gm fl o) H := by rw [← ht]; exact hB.1
  refine lv_goto (tgt := 16) hx hb dL_unknown_9 (by decide) ?_
  refine lv_iconst (v := nI 0) hx hb dL_unknown_16 (by decide +kernel) ?_
  exact W.iret hx hb hr (fun t ht hW => ⟨⟨_, (), rfl, rfl, by rw [ht]; exact hP, va_K.moved hW.alike hK⟩, hS.F ht⟩) hS.2.2 dL_unknown_17
set_option maxHeartbeats 4000000 in
set_option maxRecDepth 100000 in
theorem w_reckon (l : Launch) (dC : Nat → ClassId) (dI : Nat → Nat → Nat) (a : Nat → Nat) (k : Nat → ClassId) (fn ft gn gt gm : Nat → Int32) (fl : Int32) (o : Nat → Int64) (hinj : nInj a) (sl kd p0 q0 : Nat) (hsl : sl < 8) (hkd : kd < 6) (hp0 : p0 < 8) (hq0 : q0 < 8) : Met l yL_reckon wsL_reckon ({ frames := 3, cells := 0, slots := 0, locals := 96 }) (va_Pc [.ref (a 0), .int (nI sl), .int (nI kd), .int (nI p0), .int (nI q0)] (nPw dC dI a k fn ft gn gt gm fl o)) (nQi (nI 0) (nPw dC dI a k (nF fn (1024 * sl) 1024 (nvR fn kd p0 q0)) ft gn gt gm fl o) a) 0 0 (nA0 a) := by
  refine va_MetW (cc := cL_reckon) (maxL := 6) (ret := (some .int)) (by decide) rfl ?_
  intro p e s m args below meth c s₁ B hml hv
  obtain ⟨rfl, hP, hK⟩ := hv
  have hx := B.exec
  have hb := B.bytes
  have hr := B.returns
  have hts := atoms_spec (ws := wsL_reckon) B.pre
  have hown : s.vm.findClass RL = some m.cls := findClass_of_methodNamed B.named
  have hlocks := B.notSynchronized
  have hS : va_S (nA0 a) s.heap s.heap [] := va_S.rf
  have hl := lv_entry ([.ref (a 0), .int (nI sl), .int (nI kd), .int (nI p0), .int (nI q0)]) (n := 6) (Nat.le_of_ble_eq_true rfl)
  rw [lg_entry_eq]
  generalize (lg_sl ([.ref (a 0), .int (nI sl), .int (nI kd), .int (nI p0), .int (nI q0)]) ++ List.replicate (6 - (lg_sl ([.ref (a 0), .int (nI sl), .int (nI kd), .int (nI p0), .int (nI q0)])).length) Slot.unset).toArray = ls at hl ⊢
  have hl : lv_has ls 6 [(0, .ref (a 0)), (1, .int (nI sl)), (2, .int (nI kd)), (3, .int (nI p0)), (4, .int (nI q0))] := hl
  refine lv_aload_n hx hb dL_reckon_0 rfl (lv_at hl 0 rfl) ?_
  refine lv_iload_n hx hb dL_reckon_1 rfl (lv_at hl 1 rfl) ?_
  refine lv_iload_n hx hb dL_reckon_2 rfl (lv_at hl 2 rfl) ?_
  refine lv_iload_n hx hb dL_reckon_3 rfl (lv_at hl 3 rfl) ?_
  refine lv_iload hx hb dL_reckon_4 (lv_at hl 4 rfl) ?_
  refine va_callv (va_runV (As := [.int (nI sl), .int (nI kd), .int (nI p0), .int (nI q0)]) (rest := []) ⟨hx, hb, hml, hown, hts⟩ (c_reckon l dC dI a k fn ft gn gt gm fl o hinj sl kd p0 q0 hsl hkd hp0 hq0) (cwV 4 hts gL_reckon_X0_reckon rfl rfl rfl (by decide +kernel) ⟨Nat.le_of_ble_eq_true rfl, Nat.le_of_ble_eq_true rfl⟩) (nPreV hP hK (va_recv hK hP (ci := 0) (q0 := 0) rfl rfl)) rfl rfl hl.1 rfl (lv_room (Nat.le_of_ble_eq_true rfl)) dL_reckon_6 ⟨Nat.zero_le _, Nat.zero_le _⟩) hS (fun _ _ h => h) (fun _ h => h) (fun _ t H locs ht hvm _ hB _ _ hS => ?_)
  have hP : va_P (dC, dI) vwCl (nW a k (nF fn (1024 * sl) 1024 (nvR fn kd p0 q0)) ft gn gt gm fl o) H := by rw [← ht]; exact hB.1
  refine lv_goto (tgt := 16) hx hb dL_reckon_9 (by decide) ?_
  refine lv_iconst (v := nI 0) hx hb dL_reckon_16 (by decide +kernel) ?_
  exact W.iret hx hb hr (fun t ht hW => ⟨⟨_, (), rfl, rfl, by rw [ht]; exact hP, va_K.moved hW.alike hK⟩, hS.F ht⟩) hS.2.2 dL_reckon_17
set_option maxHeartbeats 4000000 in
set_option maxRecDepth 100000 in
theorem w_compare (l : Launch) (dC : Nat → ClassId) (dI : Nat → Nat → Nat) (a : Nat → Nat) (k : Nat → ClassId) (fn ft gn gt gm : Nat → Int32) (fl : Int32) (o : Nat → Int64) (hinj : nInj a) (tr kd p0 q0 : Nat) (htr : tr < 8) (hkd : kd < 4) (hp0 : p0 < 8) (hq0 : q0 < 8) : Met l yL_compare wsL_compare ({ frames := 3, cells := 0, slots := 0, locals := 96 }) (va_Pc [.ref (a 0), .int (nI tr), .int (nI kd), .int (nI p0), .int (nI q0), .ref (a 7)] (nPw dC dI a k fn ft gn gt gm fl o)) (nQi (nI 0) (nPw dC dI a k fn (nF ft 0 1024 (nvT ft tr (nyC fn kd p0 q0))) gn gt gm fl (vp_updL o (nI 0).toNatClampNeg ((nI (nN (nyC fn kd p0 q0) 1024)).toInt64))) a) 0 0 (nA0 a) := by
  refine va_MetW (cc := cL_compare) (maxL := 7) (ret := (some .int)) (by decide) rfl ?_
  intro p e s m args below meth c s₁ B hml hv
  obtain ⟨rfl, hP, hK⟩ := hv
  have hx := B.exec
  have hb := B.bytes
  have hr := B.returns
  have hts := atoms_spec (ws := wsL_compare) B.pre
  have hown : s.vm.findClass RL = some m.cls := findClass_of_methodNamed B.named
  have hlocks := B.notSynchronized
  have hS : va_S (nA0 a) s.heap s.heap [] := va_S.rf
  have hl := lv_entry ([.ref (a 0), .int (nI tr), .int (nI kd), .int (nI p0), .int (nI q0), .ref (a 7)]) (n := 7) (Nat.le_of_ble_eq_true rfl)
  rw [lg_entry_eq]
  generalize (lg_sl ([.ref (a 0), .int (nI tr), .int (nI kd), .int (nI p0), .int (nI q0), .ref (a 7)]) ++ List.replicate (7 - (lg_sl ([.ref (a 0), .int (nI tr), .int (nI kd), .int (nI p0), .int (nI q0), .ref (a 7)])).length) Slot.unset).toArray = ls at hl ⊢
  have hl : lv_has ls 7 [(0, .ref (a 0)), (1, .int (nI tr)), (2, .int (nI kd)), (3, .int (nI p0)), (4, .int (nI q0)), (5, .ref (a 7))] := hl
  refine lv_aload hx hb dL_compare_0 (lv_at hl 5 rfl) ?_
  refine lv_iconst (v := nI 0) hx hb dL_compare_2 (by decide +kernel) ?_
  refine lv_aload_n hx hb dL_compare_3 rfl (lv_at hl 0 rfl) ?_
  refine lv_iload_n hx hb dL_compare_4 rfl (lv_at hl 1 rfl) ?_
  refine lv_iload_n hx hb dL_compare_5 rfl (lv_at hl 2 rfl) ?_
  refine lv_iload_n hx hb dL_compare_6 rfl (lv_at hl 3 rfl) ?_
  refine lv_iload hx hb dL_compare_7 (lv_at hl 4 rfl) ?_
  refine va_calli (va_runV (As := [.int (nI tr), .int (nI kd), .int (nI p0), .int (nI q0)]) (rest := [.int (nI 0), .ref (a 7)]) ⟨hx, hb, hml, hown, hts⟩ (c_compare l dC dI a k fn ft gn gt gm fl o hinj tr kd p0 q0 htr hkd hp0 hq0) (cwV 4 hts gL_compare_X0_compare rfl rfl rfl (by decide +kernel) ⟨Nat.le_of_ble_eq_true rfl, Nat.le_of_ble_eq_true rfl⟩) (nPreV hP hK (va_recv hK hP (ci := 0) (q0 := 0) rfl rfl)) rfl rfl hl.1 rfl (lv_room (Nat.le_of_ble_eq_true rfl)) dL_compare_9 ⟨Nat.zero_le _, Nat.zero_le _⟩) hS (fun _ _ h => h) (fun _ h => h) (fun r_9_1 _ t H locs ht hvm er_9_1 hB _ _ hS => ?_)
  subst er_9_1
  have hP : va_P (dC, dI) vwCl (nW a k fn (nF ft 0 1024 (nvT ft tr (nyC fn kd p0 q0))) gn gt gm fl o) H := by rw [← ht]; exact hB.1
  refine lv_i2l hx hb dL_compare_12 rfl ?_
  refine va_last (i := nI 0) (x := (nI (nN (nyC fn kd p0 q0) 1024)).toInt64) hx hb hK hP (nDA hinj) hS 7 5 rfl rfl (vp_in_nI (by omega) (by decide)) dL_compare_13 (fun H locs hP _ hS => ?_)
  have e_13_2 : vp_updL o (nI 0).toNatClampNeg ((nI (nN (nyC fn kd p0 q0) 1024)).toInt64) = vp_updL o (nI 0).toNatClampNeg ((nI (nN (nyC fn kd p0 q0) 1024)).toInt64) := rfl
  have hP : va_P (dC, dI) vwCl (nW a k fn (nF ft 0 1024 (nvT ft tr (nyC fn kd p0 q0))) gn gt gm fl (vp_updL o (nI 0).toNatClampNeg ((nI (nN (nyC fn kd p0 q0) 1024)).toInt64))) H := by rw [← e_13_2]; exact hP
  refine lv_goto (tgt := 21) hx hb dL_compare_14 (by decide) ?_
  refine lv_iconst (v := nI 0) hx hb dL_compare_21 (by decide +kernel) ?_
  exact W.iret hx hb hr (fun t ht hW => ⟨⟨_, (), rfl, rfl, by rw [ht]; exact hP, va_K.moved hW.alike hK⟩, hS.F ht⟩) hS.2.2 dL_compare_22
set_option maxHeartbeats 4000000 in
set_option maxRecDepth 100000 in
theorem w_choose (l : Launch) (dC : Nat → ClassId) (dI : Nat → Nat → Nat) (a : Nat → Nat) (k : Nat → ClassId) (fn ft gn gt gm : Nat → Int32) (fl : Int32) (o : Nat → Int64) (hinj : nInj a) (sl tr p0 q0 : Nat) (hsl : sl < 8) (htr : tr < 8) (hp0 : p0 < 8) (hq0 : q0 < 8) : Met l yL_choose wsL_choose ({ frames := 3, cells := 0, slots := 0, locals := 96 }) (va_Pc [.ref (a 0), .int (nI sl), .int (nI tr), .int (nI p0), .int (nI q0)] (nPw dC dI a k fn ft gn gt gm fl o)) (nQi (nI 0) (nPw dC dI a k (nF fn (1024 * sl) 1024 (nvH fn ft tr p0 q0)) ft gn gt gm fl o) a) 0 0 (nA0 a) := by
  refine va_MetW (cc := cL_choose) (maxL := 6) (ret := (some .int)) (by decide) rfl ?_
  intro p e s m args below meth c s₁ B hml hv
  obtain ⟨rfl, hP, hK⟩ := hv
  have hx := B.exec
  have hb := B.bytes
  have hr := B.returns
  have hts := atoms_spec (ws := wsL_choose) B.pre
  have hown : s.vm.findClass RL = some m.cls := findClass_of_methodNamed B.named
  have hlocks := B.notSynchronized
  have hS : va_S (nA0 a) s.heap s.heap [] := va_S.rf
  have hl := lv_entry ([.ref (a 0), .int (nI sl), .int (nI tr), .int (nI p0), .int (nI q0)]) (n := 6) (Nat.le_of_ble_eq_true rfl)
  rw [lg_entry_eq]
  generalize (lg_sl ([.ref (a 0), .int (nI sl), .int (nI tr), .int (nI p0), .int (nI q0)]) ++ List.replicate (6 - (lg_sl ([.ref (a 0), .int (nI sl), .int (nI tr), .int (nI p0), .int (nI q0)])).length) Slot.unset).toArray = ls at hl ⊢
  have hl : lv_has ls 6 [(0, .ref (a 0)), (1, .int (nI sl)), (2, .int (nI tr)), (3, .int (nI p0)), (4, .int (nI q0))] := hl
  refine lv_aload_n hx hb dL_choose_0 rfl (lv_at hl 0 rfl) ?_
  refine lv_iload_n hx hb dL_choose_1 rfl (lv_at hl 1 rfl) ?_
  refine lv_iload_n hx hb dL_choose_2 rfl (lv_at hl 2 rfl) ?_
  refine lv_iload_n hx hb dL_choose_3 rfl (lv_at hl 3 rfl) ?_
  refine lv_iload hx hb dL_choose_4 (lv_at hl 4 rfl) ?_
  refine va_callv (va_runV (As := [.int (nI sl), .int (nI tr), .int (nI p0), .int (nI q0)]) (rest := []) ⟨hx, hb, hml, hown, hts⟩ (c_choose l dC dI a k fn ft gn gt gm fl o hinj sl tr p0 q0 hsl htr hp0 hq0) (cwV 4 hts gL_choose_X0_choose rfl rfl rfl (by decide +kernel) ⟨Nat.le_of_ble_eq_true rfl, Nat.le_of_ble_eq_true rfl⟩) (nPreV hP hK (va_recv hK hP (ci := 0) (q0 := 0) rfl rfl)) rfl rfl hl.1 rfl (lv_room (Nat.le_of_ble_eq_true rfl)) dL_choose_6 ⟨Nat.zero_le _, Nat.zero_le _⟩) hS (fun _ _ h => h) (fun _ h => h) (fun _ t H locs ht hvm _ hB _ _ hS => ?_)
  have hP : va_P (dC, dI) vwCl (nW a k (nF fn (1024 * sl) 1024 (nvH fn ft tr p0 q0)) ft gn gt gm fl o) H := by rw [← ht]; exact hB.1
  refine lv_goto (tgt := 16) hx hb dL_choose_9 (by decide) ?_
  refine lv_iconst (v := nI 0) hx hb dL_choose_16 (by decide +kernel) ?_
  exact W.iret hx hb hr (fun t ht hW => ⟨⟨_, (), rfl, rfl, by rw [ht]; exact hP, va_K.moved hW.alike hK⟩, hS.F ht⟩) hS.2.2 dL_choose_17
set_option maxHeartbeats 4000000 in
set_option maxRecDepth 100000 in
theorem w_join (l : Launch) (dC : Nat → ClassId) (dI : Nat → Nat → Nat) (a : Nat → Nat) (k : Nat → ClassId) (fn ft gn gt gm : Nat → Int32) (fl : Int32) (o : Nat → Int64) (hinj : nInj a) (tr kd p0 q0 : Nat) (htr : tr < 8) (hkd : kd < 4) (hp0 : p0 < 8) (hq0 : q0 < 8) : Met l yL_join wsL_join ({ frames := 3, cells := 0, slots := 0, locals := 96 }) (va_Pc [.ref (a 0), .int (nI tr), .int (nI kd), .int (nI p0), .int (nI q0), .ref (a 7)] (nPw dC dI a k fn ft gn gt gm fl o)) (nQi (nI 0) (nPw dC dI a k fn (nF ft 0 1024 (nvT ft tr (nyJ ft kd p0 q0))) gn gt gm fl (vp_updL o (nI 0).toNatClampNeg ((nI (nN (nyJ ft kd p0 q0) 1024)).toInt64))) a) 0 0 (nA0 a) := by
  refine va_MetW (cc := cL_join) (maxL := 7) (ret := (some .int)) (by decide) rfl ?_
  intro p e s m args below meth c s₁ B hml hv
  obtain ⟨rfl, hP, hK⟩ := hv
  have hx := B.exec
  have hb := B.bytes
  have hr := B.returns
  have hts := atoms_spec (ws := wsL_join) B.pre
  have hown : s.vm.findClass RL = some m.cls := findClass_of_methodNamed B.named
  have hlocks := B.notSynchronized
  have hS : va_S (nA0 a) s.heap s.heap [] := va_S.rf
  have hl := lv_entry ([.ref (a 0), .int (nI tr), .int (nI kd), .int (nI p0), .int (nI q0), .ref (a 7)]) (n := 7) (Nat.le_of_ble_eq_true rfl)
  rw [lg_entry_eq]
  generalize (lg_sl ([.ref (a 0), .int (nI tr), .int (nI kd), .int (nI p0), .int (nI q0), .ref (a 7)]) ++ List.replicate (7 - (lg_sl ([.ref (a 0), .int (nI tr), .int (nI kd), .int (nI p0), .int (nI q0), .ref (a 7)])).length) Slot.unset).toArray = ls at hl ⊢
  have hl : lv_has ls 7 [(0, .ref (a 0)), (1, .int (nI tr)), (2, .int (nI kd)), (3, .int (nI p0)), (4, .int (nI q0)), (5, .ref (a 7))] := hl
  refine lv_aload hx hb dL_join_0 (lv_at hl 5 rfl) ?_
  refine lv_iconst (v := nI 0) hx hb dL_join_2 (by decide +kernel) ?_
  refine lv_aload_n hx hb dL_join_3 rfl (lv_at hl 0 rfl) ?_
  refine lv_iload_n hx hb dL_join_4 rfl (lv_at hl 1 rfl) ?_
  refine lv_iload_n hx hb dL_join_5 rfl (lv_at hl 2 rfl) ?_
  refine lv_iload_n hx hb dL_join_6 rfl (lv_at hl 3 rfl) ?_
  refine lv_iload hx hb dL_join_7 (lv_at hl 4 rfl) ?_
  refine va_calli (va_runV (As := [.int (nI tr), .int (nI kd), .int (nI p0), .int (nI q0)]) (rest := [.int (nI 0), .ref (a 7)]) ⟨hx, hb, hml, hown, hts⟩ (c_join l dC dI a k fn ft gn gt gm fl o hinj tr kd p0 q0 htr hkd hp0 hq0) (cwV 4 hts gL_join_X0_join rfl rfl rfl (by decide +kernel) ⟨Nat.le_of_ble_eq_true rfl, Nat.le_of_ble_eq_true rfl⟩) (nPreV hP hK (va_recv hK hP (ci := 0) (q0 := 0) rfl rfl)) rfl rfl hl.1 rfl (lv_room (Nat.le_of_ble_eq_true rfl)) dL_join_9 ⟨Nat.zero_le _, Nat.zero_le _⟩) hS (fun _ _ h => h) (fun _ h => h) (fun r_9_1 _ t H locs ht hvm er_9_1 hB _ _ hS => ?_)
  subst er_9_1
  have hP : va_P (dC, dI) vwCl (nW a k fn (nF ft 0 1024 (nvT ft tr (nyJ ft kd p0 q0))) gn gt gm fl o) H := by rw [← ht]; exact hB.1
  refine lv_i2l hx hb dL_join_12 rfl ?_
  refine va_last (i := nI 0) (x := (nI (nN (nyJ ft kd p0 q0) 1024)).toInt64) hx hb hK hP (nDA hinj) hS 7 5 rfl rfl (vp_in_nI (by omega) (by decide)) dL_join_13 (fun H locs hP _ hS => ?_)
  have e_13_2 : vp_updL o (nI 0).toNatClampNeg ((nI (nN (nyJ ft kd p0 q0) 1024)).toInt64) = vp_updL o (nI 0).toNatClampNeg ((nI (nN (nyJ ft kd p0 q0) 1024)).toInt64) := rfl
  have hP : va_P (dC, dI) vwCl (nW a k fn (nF ft 0 1024 (nvT ft tr (nyJ ft kd p0 q0))) gn gt gm fl (vp_updL o (nI 0).toNatClampNeg ((nI (nN (nyJ ft kd p0 q0) 1024)).toInt64))) H := by rw [← e_13_2]; exact hP
  refine lv_goto (tgt := 21) hx hb dL_join_14 (by decide) ?_
  refine lv_iconst (v := nI 0) hx hb dL_join_21 (by decide +kernel) ?_
  exact W.iret hx hb hr (fun t ht hW => ⟨⟨_, (), rfl, rfl, by rw [ht]; exact hP, va_K.moved hW.alike hK⟩, hS.F ht⟩) hS.2.2 dL_join_22
set_option maxHeartbeats 4000000 in
set_option maxRecDepth 100000 in
theorem w_value (l : Launch) (dC : Nat → ClassId) (dI : Nat → Nat → Nat) (a : Nat → Nat) (k : Nat → ClassId) (fn ft gn gt gm : Nat → Int32) (fl : Int32) (o : Nat → Int64) (hinj : nInj a) (sl wy : Nat) (hsl : sl < 8) (hwy : wy < 1024) : Met l yL_value wsL_value ({ frames := 3, cells := 0, slots := 0, locals := 96 }) (va_Pc [.ref (a 0), .int (nI sl), .int (nI wy), .ref (a 7)] (nPw dC dI a k fn ft gn gt gm fl o)) (nQi (nI 0) (nPw dC dI a k fn ft gn gt gm fl (vp_updL o (nI 0).toNatClampNeg ((fn (1024 * sl + wy)).toInt64))) a) 0 0 (nA0 a) := by
  refine va_MetW (cc := cL_value) (maxL := 5) (ret := (some .int)) (by decide) rfl ?_
  intro p e s m args below meth c s₁ B hml hv
  obtain ⟨rfl, hP, hK⟩ := hv
  have hx := B.exec
  have hb := B.bytes
  have hr := B.returns
  have hts := atoms_spec (ws := wsL_value) B.pre
  have hown : s.vm.findClass RL = some m.cls := findClass_of_methodNamed B.named
  have hlocks := B.notSynchronized
  have hS : va_S (nA0 a) s.heap s.heap [] := va_S.rf
  have hl := lv_entry ([.ref (a 0), .int (nI sl), .int (nI wy), .ref (a 7)]) (n := 5) (Nat.le_of_ble_eq_true rfl)
  rw [lg_entry_eq]
  generalize (lg_sl ([.ref (a 0), .int (nI sl), .int (nI wy), .ref (a 7)]) ++ List.replicate (5 - (lg_sl ([.ref (a 0), .int (nI sl), .int (nI wy), .ref (a 7)])).length) Slot.unset).toArray = ls at hl ⊢
  have hl : lv_has ls 5 [(0, .ref (a 0)), (1, .int (nI sl)), (2, .int (nI wy)), (3, .ref (a 7))] := hl
  refine lv_aload_n hx hb dL_value_0 rfl (lv_at hl 3 rfl) ?_
  refine lv_iconst (v := nI 0) hx hb dL_value_1 (by decide +kernel) ?_
  refine lv_aload_n hx hb dL_value_2 rfl (lv_at hl 0 rfl) ?_
  refine lv_iload_n hx hb dL_value_3 rfl (lv_at hl 1 rfl) ?_
  refine lv_iload_n hx hb dL_value_4 rfl (lv_at hl 2 rfl) ?_
  refine vp_callSi (W.runV (As := [.int (nI sl), .int (nI wy)]) (rest := [.int (nI 0), .ref (a 7)]) ⟨hx, hb, hml, hown, hts⟩ (c_value l dC dI a k fn ft gn gt gm fl o sl wy hsl hwy) (cwV 2 hts gL_value_X0_value rfl rfl rfl (by decide +kernel) ⟨Nat.le_of_ble_eq_true rfl, Nat.le_of_ble_eq_true rfl⟩) (nPreV hP hK (va_recv hK hP (ci := 0) (q0 := 0) rfl rfl)) rfl rfl hl.1 rfl (lv_room (Nat.le_of_ble_eq_true rfl)) dL_value_5 ⟨Nat.zero_le _, Nat.zero_le _⟩) (fun r_5_1 er_5_1 => ?_)
  subst er_5_1
  refine lv_i2l hx hb dL_value_8 rfl ?_
  refine va_last (i := nI 0) (x := (fn (1024 * sl + wy)).toInt64) hx hb hK hP (nDA hinj) hS 7 5 rfl rfl (vp_in_nI (by omega) (by decide)) dL_value_9 (fun H locs hP _ hS => ?_)
  have e_9_2 : vp_updL o (nI 0).toNatClampNeg ((fn (1024 * sl + wy)).toInt64) = vp_updL o (nI 0).toNatClampNeg ((fn (1024 * sl + wy)).toInt64) := rfl
  have hP : va_P (dC, dI) vwCl (nW a k fn ft gn gt gm fl (vp_updL o (nI 0).toNatClampNeg ((fn (1024 * sl + wy)).toInt64))) H := by rw [← e_9_2]; exact hP
  refine lv_goto (tgt := 17) hx hb dL_value_10 (by decide) ?_
  refine lv_iconst (v := nI 0) hx hb dL_value_17 (by decide +kernel) ?_
  exact W.iret hx hb hr (fun t ht hW => ⟨⟨_, (), rfl, rfl, by rw [ht]; exact hP, va_K.moved hW.alike hK⟩, hS.F ht⟩) hS.2.2 dL_value_18
set_option maxHeartbeats 4000000 in
set_option maxRecDepth 100000 in
theorem w_way (l : Launch) (dC : Nat → ClassId) (dI : Nat → Nat → Nat) (a : Nat → Nat) (k : Nat → ClassId) (fn ft gn gt gm : Nat → Int32) (fl : Int32) (o : Nat → Int64) (hinj : nInj a) (tr w0 : Nat) (htr : tr < 8) (hw0 : w0 < 1024) (hy0 : bt (ft w0) tr = true) (hn0 : ∀ j, j < w0 → bt (ft j) tr = false) : Met l yL_way wsL_way ({ frames := 3, cells := 0, slots := 0, locals := 96 }) (va_Pc [.ref (a 0), .int (nI tr), .ref (a 7)] (nPw dC dI a k fn ft gn gt gm fl o)) (nQi (nI 0) (nPw dC dI a k fn ft gn gt gm fl (vp_updL o (nI 0).toNatClampNeg ((nI w0).toInt64))) a) 0 0 (nA0 a) := by
  refine va_MetW (cc := cL_way) (maxL := 4) (ret := (some .int)) (by decide) rfl ?_
  intro p e s m args below meth c s₁ B hml hv
  obtain ⟨rfl, hP, hK⟩ := hv
  have hx := B.exec
  have hb := B.bytes
  have hr := B.returns
  have hts := atoms_spec (ws := wsL_way) B.pre
  have hown : s.vm.findClass RL = some m.cls := findClass_of_methodNamed B.named
  have hlocks := B.notSynchronized
  have hS : va_S (nA0 a) s.heap s.heap [] := va_S.rf
  have hl := lv_entry ([.ref (a 0), .int (nI tr), .ref (a 7)]) (n := 4) (Nat.le_of_ble_eq_true rfl)
  rw [lg_entry_eq]
  generalize (lg_sl ([.ref (a 0), .int (nI tr), .ref (a 7)]) ++ List.replicate (4 - (lg_sl ([.ref (a 0), .int (nI tr), .ref (a 7)])).length) Slot.unset).toArray = ls at hl ⊢
  have hl : lv_has ls 4 [(0, .ref (a 0)), (1, .int (nI tr)), (2, .ref (a 7))] := hl
  refine lv_aload_n hx hb dL_way_0 rfl (lv_at hl 2 rfl) ?_
  refine lv_iconst (v := nI 0) hx hb dL_way_1 (by decide +kernel) ?_
  refine lv_aload_n hx hb dL_way_2 rfl (lv_at hl 0 rfl) ?_
  refine lv_iload_n hx hb dL_way_3 rfl (lv_at hl 1 rfl) ?_
  refine vp_callSi (W.runV (As := [.int (nI tr)]) (rest := [.int (nI 0), .ref (a 7)]) ⟨hx, hb, hml, hown, hts⟩ (c_way l dC dI a k fn ft gn gt gm fl o tr w0 htr hw0 hy0 hn0) (cwV 1 hts gL_way_X0_way rfl rfl rfl (by decide +kernel) ⟨Nat.le_of_ble_eq_true rfl, Nat.le_of_ble_eq_true rfl⟩) (nPreV hP hK (va_recv hK hP (ci := 0) (q0 := 0) rfl rfl)) rfl rfl hl.1 rfl (lv_room (Nat.le_of_ble_eq_true rfl)) dL_way_4 ⟨Nat.zero_le _, Nat.zero_le _⟩) (fun r_4_1 er_4_1 => ?_)
  subst er_4_1
  refine lv_i2l hx hb dL_way_7 rfl ?_
  refine va_last (i := nI 0) (x := (nI w0).toInt64) hx hb hK hP (nDA hinj) hS 7 5 rfl rfl (vp_in_nI (by omega) (by decide)) dL_way_8 (fun H locs hP _ hS => ?_)
  have e_8_2 : vp_updL o (nI 0).toNatClampNeg ((nI w0).toInt64) = vp_updL o (nI 0).toNatClampNeg ((nI w0).toInt64) := rfl
  have hP : va_P (dC, dI) vwCl (nW a k fn ft gn gt gm fl (vp_updL o (nI 0).toNatClampNeg ((nI w0).toInt64))) H := by rw [← e_8_2]; exact hP
  refine lv_goto (tgt := 18) hx hb dL_way_9 (by decide) ?_
  refine lv_iconst (v := nI 0) hx hb dL_way_18 (by decide +kernel) ?_
  exact W.iret hx hb hr (fun t ht hW => ⟨⟨_, (), rfl, rfl, by rw [ht]; exact hP, va_K.moved hW.alike hK⟩, hS.F ht⟩) hS.2.2 dL_way_19
set_option maxHeartbeats 4000000 in
set_option maxRecDepth 100000 in
theorem w_same (l : Launch) (dC : Nat → ClassId) (dI : Nat → Nat → Nat) (a : Nat → Nat) (k : Nat → ClassId) (fn ft gn gt gm : Nat → Int32) (fl : Int32) (o : Nat → Int64) (hinj : nInj a) (p0 q0 : Nat) (hp0 : p0 < 8) (hq0 : q0 < 8) : Met l yL_same wsL_same ({ frames := 3, cells := 0, slots := 0, locals := 96 }) (va_Pc [.ref (a 0), .int (nI p0), .int (nI q0), .ref (a 7)] (nPw dC dI a k fn ft gn gt gm fl o)) (nQi (nI 0) (nPw dC dI a k fn ft gn gt gm fl (vp_updL o (nI 0).toNatClampNeg (nl (nAll (nqS fn p0 q0) 1024)))) a) 0 0 (nA0 a) := by
  refine va_MetW (cc := cL_same) (maxL := 5) (ret := (some .int)) (by decide) rfl ?_
  intro p e s m args below meth c s₁ B hml hv
  obtain ⟨rfl, hP, hK⟩ := hv
  have hx := B.exec
  have hb := B.bytes
  have hr := B.returns
  have hts := atoms_spec (ws := wsL_same) B.pre
  have hown : s.vm.findClass RL = some m.cls := findClass_of_methodNamed B.named
  have hlocks := B.notSynchronized
  have hS : va_S (nA0 a) s.heap s.heap [] := va_S.rf
  have hl := lv_entry ([.ref (a 0), .int (nI p0), .int (nI q0), .ref (a 7)]) (n := 5) (Nat.le_of_ble_eq_true rfl)
  rw [lg_entry_eq]
  generalize (lg_sl ([.ref (a 0), .int (nI p0), .int (nI q0), .ref (a 7)]) ++ List.replicate (5 - (lg_sl ([.ref (a 0), .int (nI p0), .int (nI q0), .ref (a 7)])).length) Slot.unset).toArray = ls at hl ⊢
  have hl : lv_has ls 5 [(0, .ref (a 0)), (1, .int (nI p0)), (2, .int (nI q0)), (3, .ref (a 7))] := hl
  refine lv_aload_n hx hb dL_same_0 rfl (lv_at hl 3 rfl) ?_
  refine lv_iconst (v := nI 0) hx hb dL_same_1 (by decide +kernel) ?_
  refine lv_aload_n hx hb dL_same_2 rfl (lv_at hl 0 rfl) ?_
  refine lv_iload_n hx hb dL_same_3 rfl (lv_at hl 1 rfl) ?_
  refine lv_iload_n hx hb dL_same_4 rfl (lv_at hl 2 rfl) ?_
  refine vp_callSi (W.runV (As := [.int (nI p0), .int (nI q0)]) (rest := [.int (nI 0), .ref (a 7)]) ⟨hx, hb, hml, hown, hts⟩ (c_same l dC dI a k fn ft gn gt gm fl o p0 q0 hp0 hq0) (cwV 2 hts gL_same_X0_same rfl rfl rfl (by decide +kernel) ⟨Nat.le_of_ble_eq_true rfl, Nat.le_of_ble_eq_true rfl⟩) (nPreV hP hK (va_recv hK hP (ci := 0) (q0 := 0) rfl rfl)) rfl rfl hl.1 rfl (lv_room (Nat.le_of_ble_eq_true rfl)) dL_same_5 ⟨Nat.zero_le _, Nat.zero_le _⟩) (fun r_5_1 er_5_1 => ?_)
  subst er_5_1
  refine lv_if_eq (tgt := 15) hx hb dL_same_8 (by decide) (fun c1 => ?_) (fun c1 => ?_)
  · refine lv_lconst (v := 0) hx hb dL_same_15 (by decide +kernel) ?_
    refine va_last (i := nI 0) (x := 0) hx hb hK hP (nDA hinj) hS 7 5 rfl rfl (vp_in_nI (by omega) (by decide)) dL_same_16 (fun H locs hP _ hS => ?_)
    have e_16_2 : vp_updL o (nI 0).toNatClampNeg 0 = vp_updL o (nI 0).toNatClampNeg (nl (nAll (nqS fn p0 q0) 1024)) := by rw [show (nAll (nqS fn p0 q0) 1024) = false from nb_f c1]; rfl
    have hP : va_P (dC, dI) vwCl (nW a k fn ft gn gt gm fl (vp_updL o (nI 0).toNatClampNeg (nl (nAll (nqS fn p0 q0) 1024)))) H := by rw [← e_16_2]; exact hP
    refine lv_goto (tgt := 24) hx hb dL_same_17 (by decide) ?_
    refine lv_iconst (v := nI 0) hx hb dL_same_24 (by decide +kernel) ?_
    exact W.iret hx hb hr (fun t ht hW => ⟨⟨_, (), rfl, rfl, by rw [ht]; exact hP, va_K.moved hW.alike hK⟩, hS.F ht⟩) hS.2.2 dL_same_25
  · refine lv_lconst (v := 1) hx hb dL_same_11 (by decide +kernel) ?_
    refine lv_goto (tgt := 16) hx hb dL_same_12 (by decide) ?_
    refine va_last (i := nI 0) (x := 1) hx hb hK hP (nDA hinj) hS 7 5 rfl rfl (vp_in_nI (by omega) (by decide)) dL_same_16 (fun H locs hP _ hS => ?_)
    have e_16_2 : vp_updL o (nI 0).toNatClampNeg 1 = vp_updL o (nI 0).toNatClampNeg (nl (nAll (nqS fn p0 q0) 1024)) := by rw [show (nAll (nqS fn p0 q0) 1024) = true from nb_t c1]; rfl
    have hP : va_P (dC, dI) vwCl (nW a k fn ft gn gt gm fl (vp_updL o (nI 0).toNatClampNeg (nl (nAll (nqS fn p0 q0) 1024)))) H := by rw [← e_16_2]; exact hP
    refine lv_goto (tgt := 24) hx hb dL_same_17 (by decide) ?_
    refine lv_iconst (v := nI 0) hx hb dL_same_24 (by decide +kernel) ?_
    exact W.iret hx hb hr (fun t ht hW => ⟨⟨_, (), rfl, rfl, by rw [ht]; exact hP, va_K.moved hW.alike hK⟩, hS.F ht⟩) hS.2.2 dL_same_25
set_option maxHeartbeats 4000000 in
set_option maxRecDepth 100000 in
theorem w_tidy (l : Launch) (dC : Nat → ClassId) (dI : Nat → Nat → Nat) (a : Nat → Nat) (k : Nat → ClassId) (fn ft gn gt gm : Nat → Int32) (fl : Int32) (o : Nat → Int64) (hinj : nInj a) (wh : Nat) (hwh : wh < 3) : Met l yL_tidy wsL_tidy ({ frames := 3, cells := 0, slots := 0, locals := 96 }) (va_Pc [.ref (a 0), .int (nI wh), .ref (a 7)] (nPw dC dI a k fn ft gn gt gm fl o)) (nQi (nI 0) (nPw dC dI a k fn ft gn gt gm fl (vp_updL o (nI 0).toNatClampNeg ((nI (nN (nqT fn) 8)).toInt64))) a) 0 0 (nA0 a) := by
  refine va_MetW (cc := cL_tidy) (maxL := 4) (ret := (some .int)) (by decide) rfl ?_
  intro p e s m args below meth c s₁ B hml hv
  obtain ⟨rfl, hP, hK⟩ := hv
  have hx := B.exec
  have hb := B.bytes
  have hr := B.returns
  have hts := atoms_spec (ws := wsL_tidy) B.pre
  have hown : s.vm.findClass RL = some m.cls := findClass_of_methodNamed B.named
  have hlocks := B.notSynchronized
  have hS : va_S (nA0 a) s.heap s.heap [] := va_S.rf
  have hl := lv_entry ([.ref (a 0), .int (nI wh), .ref (a 7)]) (n := 4) (Nat.le_of_ble_eq_true rfl)
  rw [lg_entry_eq]
  generalize (lg_sl ([.ref (a 0), .int (nI wh), .ref (a 7)]) ++ List.replicate (4 - (lg_sl ([.ref (a 0), .int (nI wh), .ref (a 7)])).length) Slot.unset).toArray = ls at hl ⊢
  have hl : lv_has ls 4 [(0, .ref (a 0)), (1, .int (nI wh)), (2, .ref (a 7))] := hl
  refine lv_aload_n hx hb dL_tidy_0 rfl (lv_at hl 2 rfl) ?_
  refine lv_iconst (v := nI 0) hx hb dL_tidy_1 (by decide +kernel) ?_
  refine lv_aload_n hx hb dL_tidy_2 rfl (lv_at hl 0 rfl) ?_
  refine lv_iload_n hx hb dL_tidy_3 rfl (lv_at hl 1 rfl) ?_
  refine vp_callSi (W.runV (As := [.int (nI wh)]) (rest := [.int (nI 0), .ref (a 7)]) ⟨hx, hb, hml, hown, hts⟩ (c_tidy l dC dI a k fn ft gn gt gm fl o wh hwh) (cwV 1 hts gL_tidy_X0_tidy rfl rfl rfl (by decide +kernel) ⟨Nat.le_of_ble_eq_true rfl, Nat.le_of_ble_eq_true rfl⟩) (nPreV hP hK (va_recv hK hP (ci := 0) (q0 := 0) rfl rfl)) rfl rfl hl.1 rfl (lv_room (Nat.le_of_ble_eq_true rfl)) dL_tidy_4 ⟨Nat.zero_le _, Nat.zero_le _⟩) (fun r_4_1 er_4_1 => ?_)
  subst er_4_1
  refine lv_i2l hx hb dL_tidy_7 rfl ?_
  refine va_last (i := nI 0) (x := (nI (nN (nqT fn) 8)).toInt64) hx hb hK hP (nDA hinj) hS 7 5 rfl rfl (vp_in_nI (by omega) (by decide)) dL_tidy_8 (fun H locs hP _ hS => ?_)
  have e_8_2 : vp_updL o (nI 0).toNatClampNeg ((nI (nN (nqT fn) 8)).toInt64) = vp_updL o (nI 0).toNatClampNeg ((nI (nN (nqT fn) 8)).toInt64) := rfl
  have hP : va_P (dC, dI) vwCl (nW a k fn ft gn gt gm fl (vp_updL o (nI 0).toNatClampNeg ((nI (nN (nqT fn) 8)).toInt64))) H := by rw [← e_8_2]; exact hP
  refine lv_goto (tgt := 15) hx hb dL_tidy_9 (by decide) ?_
  refine lv_iconst (v := nI 0) hx hb dL_tidy_15 (by decide +kernel) ?_
  exact W.iret hx hb hr (fun t ht hW => ⟨⟨_, (), rfl, rfl, by rw [ht]; exact hP, va_K.moved hW.alike hK⟩, hS.F ht⟩) hS.2.2 dL_tidy_16
set_option maxHeartbeats 4000000 in
set_option maxRecDepth 100000 in
theorem wB_constant (l : Launch) (dC : Nat → ClassId) (dI : Nat → Nat → Nat) (a : Nat → Nat) (k : Nat → ClassId) (fn ft gn gt gm : Nat → Int32) (fl : Int32) (o : Nat → Int64) (hst : l.stackTraces = false) (sz sa sb : Nat) (x1 x2 : Int32) (hbad : (nO x1 8) = true) : Met l yL_constant wsL_constant ({ frames := 8, cells := 1, slots := 6, locals := 140 }) (va_Pc [.ref (a 0), .int x1, .int x2] (fun U => nPz sz sa sb U ∧ nPw dC dI a k fn ft gn gt gm fl o U)) (va_Qi (fun r (_ : Unit) => r = nI 1) (fun _ _ => True) (fun q => sz ≤ q)) 1 6 (fun q => sz ≤ q) := by
  refine va_MetW (cc := cL_constant) (maxL := 4) (ret := (some .int)) (by decide) rfl ?_
  intro p e s m args below meth c s₁ B hml hv
  obtain ⟨rfl, hz, hP, hK⟩ := hv
  have hx := B.exec
  have hb := B.bytes
  have hr := B.returns
  have hts := atoms_spec (ws := wsL_constant) B.pre
  have hown : s.vm.findClass RL = some m.cls := findClass_of_methodNamed B.named
  have hlocks := B.notSynchronized
  have hl := lv_entry ([.ref (a 0), .int x1, .int x2]) (n := 4) (Nat.le_of_ble_eq_true rfl)
  rw [lg_entry_eq]
  generalize (lg_sl ([.ref (a 0), .int x1, .int x2]) ++ List.replicate (4 - (lg_sl ([.ref (a 0), .int x1, .int x2])).length) Slot.unset).toArray = ls at hl ⊢
  have hl : lv_has ls 4 [(0, .ref (a 0)), (1, .int x1), (2, .int x2)] := hl
  have hS : va_S (fun q => sz ≤ q) s.heap s.heap [] := va_S.rf
  refine lv_aload_n hx hb dL_constant_0 rfl (lv_at hl 0 rfl) ?_
  refine lv_iload_n hx hb dL_constant_1 rfl (lv_at hl 1 rfl) ?_
  refine lv_iload_n hx hb dL_constant_2 rfl (lv_at hl 2 rfl) ?_
  refine vx_callv (vx_runV (As := [.int x1, .int x2]) (rest := []) ⟨hx, hb, hml, hown, hts⟩ (x_constant l hst sz sa sb (a 0) x1 x2 hbad) (cwV 2 hts gL_constant_X0_constant rfl rfl rfl (by decide +kernel) ⟨Nat.le_of_ble_eq_true rfl, Nat.le_of_ble_eq_true rfl⟩) (nPz_preV hz (va_recv hK hP (ci := 0) (q0 := 0) rfl rfl)) rfl rfl hl.1 rfl (lv_room (Nat.le_of_ble_eq_true rfl)) dL_constant_3 ⟨Nat.le_of_ble_eq_true rfl, Nat.le_of_ble_eq_true rfl⟩) hS (fun _ _ h => h) (fun _ h => h) (fun _ _ h => h) (fun E ce q9 u t H1 locs1 ht hvm _ hE _ _ hS hce hcv hcl => ?_) (fun _ _ _ _ _ _ h _ _ _ _ => h.elim)
  have hE : E = "java/lang/IllegalArgumentException" := hE
  subst hE
  have htb := vx_table (x := yL_law) B (hts _ List.mem_cons_self)
  refine vx_catch (name := "java/lang/IllegalArgumentException") hown [] ⟨0, 6, 9, 13⟩ [] htb (fun z hz9 => absurd hz9 List.not_mem_nil) (by decide) (by decide) (hts (.classLink RL 13 "java/lang/IllegalArgumentException") (by decide +kernel)) (nCast hcl) hce hcv hcl ?_
  refine W.eq (g2 := F0 m 9 ls [.ref q9]) rfl ?_
  refine W.widen (k := 1) (n := 6) (Nat.le_of_ble_eq_true rfl) (Nat.le_of_ble_eq_true rfl) ?_
  refine lv_astore_n (lv' := [(3, .ref q9), (0, .ref (a 0)), (1, .int x1), (2, .int x2)]) hx hb dL_constant_9 rfl hl (by decide) rfl (fun ls hl => ?_)
  refine lv_iconst (v := nI 1) hx hb dL_constant_10 (by decide +kernel) ?_
  exact W.iret hx hb hr (fun t ht hW => ⟨⟨_, (), rfl, rfl, trivial⟩, hS.F ht⟩) hS.2.2 dL_constant_11
set_option maxHeartbeats 4000000 in
set_option maxRecDepth 100000 in
theorem wB_unknown (l : Launch) (dC : Nat → ClassId) (dI : Nat → Nat → Nat) (a : Nat → Nat) (k : Nat → ClassId) (fn ft gn gt gm : Nat → Int32) (fl : Int32) (o : Nat → Int64) (hst : l.stackTraces = false) (sz sa sb : Nat) (x1 x2 x3 x4 : Int32) (hbad : (nO x1 8 || nO x2 11 || nO x3 11 || !decide (x2 + x3 ≤ nI 10)) = true) : Met l yL_unknown wsL_unknown ({ frames := 8, cells := 1, slots := 6, locals := 140 }) (va_Pc [.ref (a 0), .int x1, .int x2, .int x3, .int x4] (fun U => nPz sz sa sb U ∧ nPw dC dI a k fn ft gn gt gm fl o U)) (va_Qi (fun r (_ : Unit) => r = nI 1) (fun _ _ => True) (fun q => sz ≤ q)) 1 6 (fun q => sz ≤ q) := by
  refine va_MetW (cc := cL_unknown) (maxL := 6) (ret := (some .int)) (by decide) rfl ?_
  intro p e s m args below meth c s₁ B hml hv
  obtain ⟨rfl, hz, hP, hK⟩ := hv
  have hx := B.exec
  have hb := B.bytes
  have hr := B.returns
  have hts := atoms_spec (ws := wsL_unknown) B.pre
  have hown : s.vm.findClass RL = some m.cls := findClass_of_methodNamed B.named
  have hlocks := B.notSynchronized
  have hl := lv_entry ([.ref (a 0), .int x1, .int x2, .int x3, .int x4]) (n := 6) (Nat.le_of_ble_eq_true rfl)
  rw [lg_entry_eq]
  generalize (lg_sl ([.ref (a 0), .int x1, .int x2, .int x3, .int x4]) ++ List.replicate (6 - (lg_sl ([.ref (a 0), .int x1, .int x2, .int x3, .int x4])).length) Slot.unset).toArray = ls at hl ⊢
  have hl : lv_has ls 6 [(0, .ref (a 0)), (1, .int x1), (2, .int x2), (3, .int x3), (4, .int x4)] := hl
  have hS : va_S (fun q => sz ≤ q) s.heap s.heap [] := va_S.rf
  refine lv_aload_n hx hb dL_unknown_0 rfl (lv_at hl 0 rfl) ?_
  refine lv_iload_n hx hb dL_unknown_1 rfl (lv_at hl 1 rfl) ?_
  refine lv_iload_n hx hb dL_unknown_2 rfl (lv_at hl 2 rfl) ?_
  refine lv_iload_n hx hb dL_unknown_3 rfl (lv_at hl 3 rfl) ?_
  refine lv_iload hx hb dL_unknown_4 (lv_at hl 4 rfl) ?_
  refine vx_callv (vx_runV (As := [.int x1, .int x2, .int x3, .int x4]) (rest := []) ⟨hx, hb, hml, hown, hts⟩ (x_unknown l hst sz sa sb (a 0) x1 x2 x3 x4 hbad) (cwV 4 hts gL_unknown_X0_unknown rfl rfl rfl (by decide +kernel) ⟨Nat.le_of_ble_eq_true rfl, Nat.le_of_ble_eq_true rfl⟩) (nPz_preV hz (va_recv hK hP (ci := 0) (q0 := 0) rfl rfl)) rfl rfl hl.1 rfl (lv_room (Nat.le_of_ble_eq_true rfl)) dL_unknown_6 ⟨Nat.le_of_ble_eq_true rfl, Nat.le_of_ble_eq_true rfl⟩) hS (fun _ _ h => h) (fun _ h => h) (fun _ _ h => h) (fun E ce q9 u t H1 locs1 ht hvm _ hE _ _ hS hce hcv hcl => ?_) (fun _ _ _ _ _ _ h _ _ _ _ => h.elim)
  have hE : E = "java/lang/IllegalArgumentException" := hE
  subst hE
  have htb := vx_table (x := yL_law) B (hts _ List.mem_cons_self)
  refine vx_catch (name := "java/lang/IllegalArgumentException") hown [] ⟨0, 9, 12, 13⟩ [] htb (fun z hz9 => absurd hz9 List.not_mem_nil) (by decide) (by decide) (hts (.classLink RL 13 "java/lang/IllegalArgumentException") (by decide +kernel)) (nCast hcl) hce hcv hcl ?_
  refine W.eq (g2 := F0 m 12 ls [.ref q9]) rfl ?_
  refine W.widen (k := 1) (n := 6) (Nat.le_of_ble_eq_true rfl) (Nat.le_of_ble_eq_true rfl) ?_
  refine lv_astore (lv' := [(5, .ref q9), (0, .ref (a 0)), (1, .int x1), (2, .int x2), (3, .int x3), (4, .int x4)]) hx hb dL_unknown_12 hl (by decide) rfl (fun ls hl => ?_)
  refine lv_iconst (v := nI 1) hx hb dL_unknown_14 (by decide +kernel) ?_
  exact W.iret hx hb hr (fun t ht hW => ⟨⟨_, (), rfl, rfl, trivial⟩, hS.F ht⟩) hS.2.2 dL_unknown_15
set_option maxHeartbeats 4000000 in
set_option maxRecDepth 100000 in
theorem wB_reckon (l : Launch) (dC : Nat → ClassId) (dI : Nat → Nat → Nat) (a : Nat → Nat) (k : Nat → ClassId) (fn ft gn gt gm : Nat → Int32) (fl : Int32) (o : Nat → Int64) (hst : l.stackTraces = false) (sz sa sb : Nat) (x1 x2 x3 x4 : Int32) (hbad : (nO x1 8 || nO x2 6 || nO x3 8 || nO x4 8) = true) : Met l yL_reckon wsL_reckon ({ frames := 8, cells := 1, slots := 6, locals := 140 }) (va_Pc [.ref (a 0), .int x1, .int x2, .int x3, .int x4] (fun U => nPz sz sa sb U ∧ nPw dC dI a k fn ft gn gt gm fl o U)) (va_Qi (fun r (_ : Unit) => r = nI 1) (fun _ _ => True) (fun q => sz ≤ q)) 1 6 (fun q => sz ≤ q) := by
  refine va_MetW (cc := cL_reckon) (maxL := 6) (ret := (some .int)) (by decide) rfl ?_
  intro p e s m args below meth c s₁ B hml hv
  obtain ⟨rfl, hz, hP, hK⟩ := hv
  have hx := B.exec
  have hb := B.bytes
  have hr := B.returns
  have hts := atoms_spec (ws := wsL_reckon) B.pre
  have hown : s.vm.findClass RL = some m.cls := findClass_of_methodNamed B.named
  have hlocks := B.notSynchronized
  have hl := lv_entry ([.ref (a 0), .int x1, .int x2, .int x3, .int x4]) (n := 6) (Nat.le_of_ble_eq_true rfl)
  rw [lg_entry_eq]
  generalize (lg_sl ([.ref (a 0), .int x1, .int x2, .int x3, .int x4]) ++ List.replicate (6 - (lg_sl ([.ref (a 0), .int x1, .int x2, .int x3, .int x4])).length) Slot.unset).toArray = ls at hl ⊢
  have hl : lv_has ls 6 [(0, .ref (a 0)), (1, .int x1), (2, .int x2), (3, .int x3), (4, .int x4)] := hl
  have hS : va_S (fun q => sz ≤ q) s.heap s.heap [] := va_S.rf
  refine lv_aload_n hx hb dL_reckon_0 rfl (lv_at hl 0 rfl) ?_
  refine lv_iload_n hx hb dL_reckon_1 rfl (lv_at hl 1 rfl) ?_
  refine lv_iload_n hx hb dL_reckon_2 rfl (lv_at hl 2 rfl) ?_
  refine lv_iload_n hx hb dL_reckon_3 rfl (lv_at hl 3 rfl) ?_
  refine lv_iload hx hb dL_reckon_4 (lv_at hl 4 rfl) ?_
  refine vx_callv (vx_runV (As := [.int x1, .int x2, .int x3, .int x4]) (rest := []) ⟨hx, hb, hml, hown, hts⟩ (x_reckon l hst sz sa sb (a 0) x1 x2 x3 x4 hbad) (cwV 4 hts gL_reckon_X0_reckon rfl rfl rfl (by decide +kernel) ⟨Nat.le_of_ble_eq_true rfl, Nat.le_of_ble_eq_true rfl⟩) (nPz_preV hz (va_recv hK hP (ci := 0) (q0 := 0) rfl rfl)) rfl rfl hl.1 rfl (lv_room (Nat.le_of_ble_eq_true rfl)) dL_reckon_6 ⟨Nat.le_of_ble_eq_true rfl, Nat.le_of_ble_eq_true rfl⟩) hS (fun _ _ h => h) (fun _ h => h) (fun _ _ h => h) (fun E ce q9 u t H1 locs1 ht hvm _ hE _ _ hS hce hcv hcl => ?_) (fun _ _ _ _ _ _ h _ _ _ _ => h.elim)
  have hE : E = "java/lang/IllegalArgumentException" := hE
  subst hE
  have htb := vx_table (x := yL_law) B (hts _ List.mem_cons_self)
  refine vx_catch (name := "java/lang/IllegalArgumentException") hown [] ⟨0, 9, 12, 13⟩ [] htb (fun z hz9 => absurd hz9 List.not_mem_nil) (by decide) (by decide) (hts (.classLink RL 13 "java/lang/IllegalArgumentException") (by decide +kernel)) (nCast hcl) hce hcv hcl ?_
  refine W.eq (g2 := F0 m 12 ls [.ref q9]) rfl ?_
  refine W.widen (k := 1) (n := 6) (Nat.le_of_ble_eq_true rfl) (Nat.le_of_ble_eq_true rfl) ?_
  refine lv_astore (lv' := [(5, .ref q9), (0, .ref (a 0)), (1, .int x1), (2, .int x2), (3, .int x3), (4, .int x4)]) hx hb dL_reckon_12 hl (by decide) rfl (fun ls hl => ?_)
  refine lv_iconst (v := nI 1) hx hb dL_reckon_14 (by decide +kernel) ?_
  exact W.iret hx hb hr (fun t ht hW => ⟨⟨_, (), rfl, rfl, trivial⟩, hS.F ht⟩) hS.2.2 dL_reckon_15
set_option maxHeartbeats 4000000 in
set_option maxRecDepth 100000 in
theorem wB_compare (l : Launch) (dC : Nat → ClassId) (dI : Nat → Nat → Nat) (a : Nat → Nat) (k : Nat → ClassId) (fn ft gn gt gm : Nat → Int32) (fl : Int32) (o : Nat → Int64) (hst : l.stackTraces = false) (sz sa sb : Nat) (x1 x2 x3 x4 : Int32) (hbad : (nO x1 8 || nO x2 4 || nO x3 8 || nO x4 8) = true) : Met l yL_compare wsL_compare ({ frames := 8, cells := 1, slots := 6, locals := 140 }) (va_Pc [.ref (a 0), .int x1, .int x2, .int x3, .int x4, .ref (a 7)] (fun U => nPz sz sa sb U ∧ nPw dC dI a k fn ft gn gt gm fl o U)) (va_Qi (fun r (_ : Unit) => r = nI 1) (fun _ _ => True) (fun q => sz ≤ q)) 1 6 (fun q => sz ≤ q) := by
  refine va_MetW (cc := cL_compare) (maxL := 7) (ret := (some .int)) (by decide) rfl ?_
  intro p e s m args below meth c s₁ B hml hv
  obtain ⟨rfl, hz, hP, hK⟩ := hv
  have hx := B.exec
  have hb := B.bytes
  have hr := B.returns
  have hts := atoms_spec (ws := wsL_compare) B.pre
  have hown : s.vm.findClass RL = some m.cls := findClass_of_methodNamed B.named
  have hlocks := B.notSynchronized
  have hl := lv_entry ([.ref (a 0), .int x1, .int x2, .int x3, .int x4, .ref (a 7)]) (n := 7) (Nat.le_of_ble_eq_true rfl)
  rw [lg_entry_eq]
  generalize (lg_sl ([.ref (a 0), .int x1, .int x2, .int x3, .int x4, .ref (a 7)]) ++ List.replicate (7 - (lg_sl ([.ref (a 0), .int x1, .int x2, .int x3, .int x4, .ref (a 7)])).length) Slot.unset).toArray = ls at hl ⊢
  have hl : lv_has ls 7 [(0, .ref (a 0)), (1, .int x1), (2, .int x2), (3, .int x3), (4, .int x4), (5, .ref (a 7))] := hl
  have hS : va_S (fun q => sz ≤ q) s.heap s.heap [] := va_S.rf
  refine lv_aload hx hb dL_compare_0 (lv_at hl 5 rfl) ?_
  refine lv_iconst (v := nI 0) hx hb dL_compare_2 (by decide +kernel) ?_
  refine lv_aload_n hx hb dL_compare_3 rfl (lv_at hl 0 rfl) ?_
  refine lv_iload_n hx hb dL_compare_4 rfl (lv_at hl 1 rfl) ?_
  refine lv_iload_n hx hb dL_compare_5 rfl (lv_at hl 2 rfl) ?_
  refine lv_iload_n hx hb dL_compare_6 rfl (lv_at hl 3 rfl) ?_
  refine lv_iload hx hb dL_compare_7 (lv_at hl 4 rfl) ?_
  refine vx_calli (vx_runV (As := [.int x1, .int x2, .int x3, .int x4]) (rest := [.int (nI 0), .ref (a 7)]) ⟨hx, hb, hml, hown, hts⟩ (x_compare l hst sz sa sb (a 0) x1 x2 x3 x4 hbad) (cwV 4 hts gL_compare_X0_compare rfl rfl rfl (by decide +kernel) ⟨Nat.le_of_ble_eq_true rfl, Nat.le_of_ble_eq_true rfl⟩) (nPz_preV hz (va_recv hK hP (ci := 0) (q0 := 0) rfl rfl)) rfl rfl hl.1 rfl (lv_room (Nat.le_of_ble_eq_true rfl)) dL_compare_9 ⟨Nat.le_of_ble_eq_true rfl, Nat.le_of_ble_eq_true rfl⟩) hS (fun _ _ h => h) (fun _ h => h) (fun _ _ h => h) (fun E ce q9 u t H1 locs1 ht hvm _ hE _ _ hS hce hcv hcl => ?_) (fun _ _ _ _ _ _ _ h _ _ _ _ => h.elim)
  have hE : E = "java/lang/IllegalArgumentException" := hE
  subst hE
  have htb := vx_table (x := yL_law) B (hts _ List.mem_cons_self)
  refine vx_catch (name := "java/lang/IllegalArgumentException") hown [] ⟨0, 14, 17, 13⟩ [] htb (fun z hz9 => absurd hz9 List.not_mem_nil) (by decide) (by decide) (hts (.classLink RL 13 "java/lang/IllegalArgumentException") (by decide +kernel)) (nCast hcl) hce hcv hcl ?_
  refine W.eq (g2 := F0 m 17 ls [.ref q9]) rfl ?_
  refine W.widen (k := 1) (n := 6) (Nat.le_of_ble_eq_true rfl) (Nat.le_of_ble_eq_true rfl) ?_
  refine lv_astore (lv' := [(6, .ref q9), (0, .ref (a 0)), (1, .int x1), (2, .int x2), (3, .int x3), (4, .int x4), (5, .ref (a 7))]) hx hb dL_compare_17 hl (by decide) rfl (fun ls hl => ?_)
  refine lv_iconst (v := nI 1) hx hb dL_compare_19 (by decide +kernel) ?_
  exact W.iret hx hb hr (fun t ht hW => ⟨⟨_, (), rfl, rfl, trivial⟩, hS.F ht⟩) hS.2.2 dL_compare_20
set_option maxHeartbeats 4000000 in
set_option maxRecDepth 100000 in
theorem wB_choose (l : Launch) (dC : Nat → ClassId) (dI : Nat → Nat → Nat) (a : Nat → Nat) (k : Nat → ClassId) (fn ft gn gt gm : Nat → Int32) (fl : Int32) (o : Nat → Int64) (hst : l.stackTraces = false) (sz sa sb : Nat) (x1 x2 x3 x4 : Int32) (hbad : (nO x1 8 || nO x2 8 || nO x3 8 || nO x4 8) = true) : Met l yL_choose wsL_choose ({ frames := 8, cells := 1, slots := 6, locals := 140 }) (va_Pc [.ref (a 0), .int x1, .int x2, .int x3, .int x4] (fun U => nPz sz sa sb U ∧ nPw dC dI a k fn ft gn gt gm fl o U)) (va_Qi (fun r (_ : Unit) => r = nI 1) (fun _ _ => True) (fun q => sz ≤ q)) 1 6 (fun q => sz ≤ q) := by
  refine va_MetW (cc := cL_choose) (maxL := 6) (ret := (some .int)) (by decide) rfl ?_
  intro p e s m args below meth c s₁ B hml hv
  obtain ⟨rfl, hz, hP, hK⟩ := hv
  have hx := B.exec
  have hb := B.bytes
  have hr := B.returns
  have hts := atoms_spec (ws := wsL_choose) B.pre
  have hown : s.vm.findClass RL = some m.cls := findClass_of_methodNamed B.named
  have hlocks := B.notSynchronized
  have hl := lv_entry ([.ref (a 0), .int x1, .int x2, .int x3, .int x4]) (n := 6) (Nat.le_of_ble_eq_true rfl)
  rw [lg_entry_eq]
  generalize (lg_sl ([.ref (a 0), .int x1, .int x2, .int x3, .int x4]) ++ List.replicate (6 - (lg_sl ([.ref (a 0), .int x1, .int x2, .int x3, .int x4])).length) Slot.unset).toArray = ls at hl ⊢
  have hl : lv_has ls 6 [(0, .ref (a 0)), (1, .int x1), (2, .int x2), (3, .int x3), (4, .int x4)] := hl
  have hS : va_S (fun q => sz ≤ q) s.heap s.heap [] := va_S.rf
  refine lv_aload_n hx hb dL_choose_0 rfl (lv_at hl 0 rfl) ?_
  refine lv_iload_n hx hb dL_choose_1 rfl (lv_at hl 1 rfl) ?_
  refine lv_iload_n hx hb dL_choose_2 rfl (lv_at hl 2 rfl) ?_
  refine lv_iload_n hx hb dL_choose_3 rfl (lv_at hl 3 rfl) ?_
  refine lv_iload hx hb dL_choose_4 (lv_at hl 4 rfl) ?_
  refine vx_callv (vx_runV (As := [.int x1, .int x2, .int x3, .int x4]) (rest := []) ⟨hx, hb, hml, hown, hts⟩ (x_choose l hst sz sa sb (a 0) x1 x2 x3 x4 hbad) (cwV 4 hts gL_choose_X0_choose rfl rfl rfl (by decide +kernel) ⟨Nat.le_of_ble_eq_true rfl, Nat.le_of_ble_eq_true rfl⟩) (nPz_preV hz (va_recv hK hP (ci := 0) (q0 := 0) rfl rfl)) rfl rfl hl.1 rfl (lv_room (Nat.le_of_ble_eq_true rfl)) dL_choose_6 ⟨Nat.le_of_ble_eq_true rfl, Nat.le_of_ble_eq_true rfl⟩) hS (fun _ _ h => h) (fun _ h => h) (fun _ _ h => h) (fun E ce q9 u t H1 locs1 ht hvm _ hE _ _ hS hce hcv hcl => ?_) (fun _ _ _ _ _ _ h _ _ _ _ => h.elim)
  have hE : E = "java/lang/IllegalArgumentException" := hE
  subst hE
  have htb := vx_table (x := yL_law) B (hts _ List.mem_cons_self)
  refine vx_catch (name := "java/lang/IllegalArgumentException") hown [] ⟨0, 9, 12, 13⟩ [] htb (fun z hz9 => absurd hz9 List.not_mem_nil) (by decide) (by decide) (hts (.classLink RL 13 "java/lang/IllegalArgumentException") (by decide +kernel)) (nCast hcl) hce hcv hcl ?_
  refine W.eq (g2 := F0 m 12 ls [.ref q9]) rfl ?_
  refine W.widen (k := 1) (n := 6) (Nat.le_of_ble_eq_true rfl) (Nat.le_of_ble_eq_true rfl) ?_
  refine lv_astore (lv' := [(5, .ref q9), (0, .ref (a 0)), (1, .int x1), (2, .int x2), (3, .int x3), (4, .int x4)]) hx hb dL_choose_12 hl (by decide) rfl (fun ls hl => ?_)
  refine lv_iconst (v := nI 1) hx hb dL_choose_14 (by decide +kernel) ?_
  exact W.iret hx hb hr (fun t ht hW => ⟨⟨_, (), rfl, rfl, trivial⟩, hS.F ht⟩) hS.2.2 dL_choose_15
set_option maxHeartbeats 4000000 in
set_option maxRecDepth 100000 in
theorem wB_join (l : Launch) (dC : Nat → ClassId) (dI : Nat → Nat → Nat) (a : Nat → Nat) (k : Nat → ClassId) (fn ft gn gt gm : Nat → Int32) (fl : Int32) (o : Nat → Int64) (hst : l.stackTraces = false) (sz sa sb : Nat) (x1 x2 x3 x4 : Int32) (hbad : (nO x1 8 || nO x2 4 || nO x3 8 || nO x4 8) = true) : Met l yL_join wsL_join ({ frames := 8, cells := 1, slots := 6, locals := 140 }) (va_Pc [.ref (a 0), .int x1, .int x2, .int x3, .int x4, .ref (a 7)] (fun U => nPz sz sa sb U ∧ nPw dC dI a k fn ft gn gt gm fl o U)) (va_Qi (fun r (_ : Unit) => r = nI 1) (fun _ _ => True) (fun q => sz ≤ q)) 1 6 (fun q => sz ≤ q) := by
  refine va_MetW (cc := cL_join) (maxL := 7) (ret := (some .int)) (by decide) rfl ?_
  intro p e s m args below meth c s₁ B hml hv
  obtain ⟨rfl, hz, hP, hK⟩ := hv
  have hx := B.exec
  have hb := B.bytes
  have hr := B.returns
  have hts := atoms_spec (ws := wsL_join) B.pre
  have hown : s.vm.findClass RL = some m.cls := findClass_of_methodNamed B.named
  have hlocks := B.notSynchronized
  have hl := lv_entry ([.ref (a 0), .int x1, .int x2, .int x3, .int x4, .ref (a 7)]) (n := 7) (Nat.le_of_ble_eq_true rfl)
  rw [lg_entry_eq]
  generalize (lg_sl ([.ref (a 0), .int x1, .int x2, .int x3, .int x4, .ref (a 7)]) ++ List.replicate (7 - (lg_sl ([.ref (a 0), .int x1, .int x2, .int x3, .int x4, .ref (a 7)])).length) Slot.unset).toArray = ls at hl ⊢
  have hl : lv_has ls 7 [(0, .ref (a 0)), (1, .int x1), (2, .int x2), (3, .int x3), (4, .int x4), (5, .ref (a 7))] := hl
  have hS : va_S (fun q => sz ≤ q) s.heap s.heap [] := va_S.rf
  refine lv_aload hx hb dL_join_0 (lv_at hl 5 rfl) ?_
  refine lv_iconst (v := nI 0) hx hb dL_join_2 (by decide +kernel) ?_
  refine lv_aload_n hx hb dL_join_3 rfl (lv_at hl 0 rfl) ?_
  refine lv_iload_n hx hb dL_join_4 rfl (lv_at hl 1 rfl) ?_
  refine lv_iload_n hx hb dL_join_5 rfl (lv_at hl 2 rfl) ?_
  refine lv_iload_n hx hb dL_join_6 rfl (lv_at hl 3 rfl) ?_
  refine lv_iload hx hb dL_join_7 (lv_at hl 4 rfl) ?_
  refine vx_calli (vx_runV (As := [.int x1, .int x2, .int x3, .int x4]) (rest := [.int (nI 0), .ref (a 7)]) ⟨hx, hb, hml, hown, hts⟩ (x_join l hst sz sa sb (a 0) x1 x2 x3 x4 hbad) (cwV 4 hts gL_join_X0_join rfl rfl rfl (by decide +kernel) ⟨Nat.le_of_ble_eq_true rfl, Nat.le_of_ble_eq_true rfl⟩) (nPz_preV hz (va_recv hK hP (ci := 0) (q0 := 0) rfl rfl)) rfl rfl hl.1 rfl (lv_room (Nat.le_of_ble_eq_true rfl)) dL_join_9 ⟨Nat.le_of_ble_eq_true rfl, Nat.le_of_ble_eq_true rfl⟩) hS (fun _ _ h => h) (fun _ h => h) (fun _ _ h => h) (fun E ce q9 u t H1 locs1 ht hvm _ hE _ _ hS hce hcv hcl => ?_) (fun _ _ _ _ _ _ _ h _ _ _ _ => h.elim)
  have hE : E = "java/lang/IllegalArgumentException" := hE
  subst hE
  have htb := vx_table (x := yL_law) B (hts _ List.mem_cons_self)
  refine vx_catch (name := "java/lang/IllegalArgumentException") hown [] ⟨0, 14, 17, 13⟩ [] htb (fun z hz9 => absurd hz9 List.not_mem_nil) (by decide) (by decide) (hts (.classLink RL 13 "java/lang/IllegalArgumentException") (by decide +kernel)) (nCast hcl) hce hcv hcl ?_
  refine W.eq (g2 := F0 m 17 ls [.ref q9]) rfl ?_
  refine W.widen (k := 1) (n := 6) (Nat.le_of_ble_eq_true rfl) (Nat.le_of_ble_eq_true rfl) ?_
  refine lv_astore (lv' := [(6, .ref q9), (0, .ref (a 0)), (1, .int x1), (2, .int x2), (3, .int x3), (4, .int x4), (5, .ref (a 7))]) hx hb dL_join_17 hl (by decide) rfl (fun ls hl => ?_)
  refine lv_iconst (v := nI 1) hx hb dL_join_19 (by decide +kernel) ?_
  exact W.iret hx hb hr (fun t ht hW => ⟨⟨_, (), rfl, rfl, trivial⟩, hS.F ht⟩) hS.2.2 dL_join_20
set_option maxHeartbeats 4000000 in
set_option maxRecDepth 100000 in
theorem wB_value (l : Launch) (dC : Nat → ClassId) (dI : Nat → Nat → Nat) (a : Nat → Nat) (k : Nat → ClassId) (fn ft gn gt gm : Nat → Int32) (fl : Int32) (o : Nat → Int64) (hst : l.stackTraces = false) (sz sa sb : Nat) (x1 x2 : Int32) (hbad : (nO x1 8 || nO x2 1024) = true) : Met l yL_value wsL_value ({ frames := 8, cells := 1, slots := 6, locals := 140 }) (va_Pc [.ref (a 0), .int x1, .int x2, .ref (a 7)] (fun U => nPz sz sa sb U ∧ nPw dC dI a k fn ft gn gt gm fl o U)) (va_Qi (fun r (_ : Unit) => r = nI 1) (fun _ _ => True) (fun q => sz ≤ q)) 1 6 (fun q => sz ≤ q) := by
  refine va_MetW (cc := cL_value) (maxL := 5) (ret := (some .int)) (by decide) rfl ?_
  intro p e s m args below meth c s₁ B hml hv
  obtain ⟨rfl, hz, hP, hK⟩ := hv
  have hx := B.exec
  have hb := B.bytes
  have hr := B.returns
  have hts := atoms_spec (ws := wsL_value) B.pre
  have hown : s.vm.findClass RL = some m.cls := findClass_of_methodNamed B.named
  have hlocks := B.notSynchronized
  have hl := lv_entry ([.ref (a 0), .int x1, .int x2, .ref (a 7)]) (n := 5) (Nat.le_of_ble_eq_true rfl)
  rw [lg_entry_eq]
  generalize (lg_sl ([.ref (a 0), .int x1, .int x2, .ref (a 7)]) ++ List.replicate (5 - (lg_sl ([.ref (a 0), .int x1, .int x2, .ref (a 7)])).length) Slot.unset).toArray = ls at hl ⊢
  have hl : lv_has ls 5 [(0, .ref (a 0)), (1, .int x1), (2, .int x2), (3, .ref (a 7))] := hl
  have hS : va_S (fun q => sz ≤ q) s.heap s.heap [] := va_S.rf
  refine lv_aload_n hx hb dL_value_0 rfl (lv_at hl 3 rfl) ?_
  refine lv_iconst (v := nI 0) hx hb dL_value_1 (by decide +kernel) ?_
  refine lv_aload_n hx hb dL_value_2 rfl (lv_at hl 0 rfl) ?_
  refine lv_iload_n hx hb dL_value_3 rfl (lv_at hl 1 rfl) ?_
  refine lv_iload_n hx hb dL_value_4 rfl (lv_at hl 2 rfl) ?_
  refine vx_calli (vx_runV (As := [.int x1, .int x2]) (rest := [.int (nI 0), .ref (a 7)]) ⟨hx, hb, hml, hown, hts⟩ (x_value l hst sz sa sb (a 0) x1 x2 hbad) (cwV 2 hts gL_value_X0_value rfl rfl rfl (by decide +kernel) ⟨Nat.le_of_ble_eq_true rfl, Nat.le_of_ble_eq_true rfl⟩) (nPz_preV hz (va_recv hK hP (ci := 0) (q0 := 0) rfl rfl)) rfl rfl hl.1 rfl (lv_room (Nat.le_of_ble_eq_true rfl)) dL_value_5 ⟨Nat.le_of_ble_eq_true rfl, Nat.le_of_ble_eq_true rfl⟩) hS (fun _ _ h => h) (fun _ h => h) (fun _ _ h => h) (fun E ce q9 u t H1 locs1 ht hvm _ hE _ _ hS hce hcv hcl => ?_) (fun _ _ _ _ _ _ _ h _ _ _ _ => h.elim)
  have hE : E = "java/lang/IllegalArgumentException" := hE
  subst hE
  have htb := vx_table (x := yL_law) B (hts _ List.mem_cons_self)
  refine vx_catch (name := "java/lang/IllegalArgumentException") hown [] ⟨0, 10, 13, 13⟩ [] htb (fun z hz9 => absurd hz9 List.not_mem_nil) (by decide) (by decide) (hts (.classLink RL 13 "java/lang/IllegalArgumentException") (by decide +kernel)) (nCast hcl) hce hcv hcl ?_
  refine W.eq (g2 := F0 m 13 ls [.ref q9]) rfl ?_
  refine W.widen (k := 1) (n := 6) (Nat.le_of_ble_eq_true rfl) (Nat.le_of_ble_eq_true rfl) ?_
  refine lv_astore (lv' := [(4, .ref q9), (0, .ref (a 0)), (1, .int x1), (2, .int x2), (3, .ref (a 7))]) hx hb dL_value_13 hl (by decide) rfl (fun ls hl => ?_)
  refine lv_iconst (v := nI 1) hx hb dL_value_15 (by decide +kernel) ?_
  exact W.iret hx hb hr (fun t ht hW => ⟨⟨_, (), rfl, rfl, trivial⟩, hS.F ht⟩) hS.2.2 dL_value_16
set_option maxHeartbeats 4000000 in
set_option maxRecDepth 100000 in
theorem wB_way (l : Launch) (dC : Nat → ClassId) (dI : Nat → Nat → Nat) (a : Nat → Nat) (k : Nat → ClassId) (fn ft gn gt gm : Nat → Int32) (fl : Int32) (o : Nat → Int64) (hst : l.stackTraces = false) (sz sa sb : Nat) (x1 : Int32) (hbad : (nO x1 8) = true) : Met l yL_way wsL_way ({ frames := 8, cells := 1, slots := 6, locals := 140 }) (va_Pc [.ref (a 0), .int x1, .ref (a 7)] (fun U => nPz sz sa sb U ∧ nPw dC dI a k fn ft gn gt gm fl o U)) (va_Qi (fun r (_ : Unit) => r = nI 1) (fun _ _ => True) (fun q => sz ≤ q)) 1 6 (fun q => sz ≤ q) := by
  refine va_MetW (cc := cL_way) (maxL := 4) (ret := (some .int)) (by decide) rfl ?_
  intro p e s m args below meth c s₁ B hml hv
  obtain ⟨rfl, hz, hP, hK⟩ := hv
  have hx := B.exec
  have hb := B.bytes
  have hr := B.returns
  have hts := atoms_spec (ws := wsL_way) B.pre
  have hown : s.vm.findClass RL = some m.cls := findClass_of_methodNamed B.named
  have hlocks := B.notSynchronized
  have hl := lv_entry ([.ref (a 0), .int x1, .ref (a 7)]) (n := 4) (Nat.le_of_ble_eq_true rfl)
  rw [lg_entry_eq]
  generalize (lg_sl ([.ref (a 0), .int x1, .ref (a 7)]) ++ List.replicate (4 - (lg_sl ([.ref (a 0), .int x1, .ref (a 7)])).length) Slot.unset).toArray = ls at hl ⊢
  have hl : lv_has ls 4 [(0, .ref (a 0)), (1, .int x1), (2, .ref (a 7))] := hl
  have hS : va_S (fun q => sz ≤ q) s.heap s.heap [] := va_S.rf
  refine lv_aload_n hx hb dL_way_0 rfl (lv_at hl 2 rfl) ?_
  refine lv_iconst (v := nI 0) hx hb dL_way_1 (by decide +kernel) ?_
  refine lv_aload_n hx hb dL_way_2 rfl (lv_at hl 0 rfl) ?_
  refine lv_iload_n hx hb dL_way_3 rfl (lv_at hl 1 rfl) ?_
  refine vx_calli (vx_runV (As := [.int x1]) (rest := [.int (nI 0), .ref (a 7)]) ⟨hx, hb, hml, hown, hts⟩ (x_way l hst sz sa sb (a 0) x1 hbad) (cwV 1 hts gL_way_X0_way rfl rfl rfl (by decide +kernel) ⟨Nat.le_of_ble_eq_true rfl, Nat.le_of_ble_eq_true rfl⟩) (nPz_preV hz (va_recv hK hP (ci := 0) (q0 := 0) rfl rfl)) rfl rfl hl.1 rfl (lv_room (Nat.le_of_ble_eq_true rfl)) dL_way_4 ⟨Nat.le_of_ble_eq_true rfl, Nat.le_of_ble_eq_true rfl⟩) hS (fun _ _ h => h) (fun _ h => h) (fun _ _ h => h) (fun E ce q9 u t H1 locs1 ht hvm _ hE _ _ hS hce hcv hcl => ?_) (fun _ _ _ _ _ _ _ h _ _ _ _ => h.elim)
  have hE : E = "java/lang/IllegalArgumentException" := hE
  subst hE
  have htb := vx_table (x := yL_law) B (hts _ List.mem_cons_self)
  refine vx_catch (name := "java/lang/IllegalArgumentException") hown [] ⟨0, 9, 12, 13⟩ [⟨0, 9, 15, 40⟩] htb (fun z hz9 => absurd hz9 List.not_mem_nil) (by decide) (by decide) (hts (.classLink RL 13 "java/lang/IllegalArgumentException") (by decide +kernel)) (nCast hcl) hce hcv hcl ?_
  refine W.eq (g2 := F0 m 12 ls [.ref q9]) rfl ?_
  refine W.widen (k := 1) (n := 6) (Nat.le_of_ble_eq_true rfl) (Nat.le_of_ble_eq_true rfl) ?_
  refine lv_astore_n (lv' := [(3, .ref q9), (0, .ref (a 0)), (1, .int x1), (2, .ref (a 7))]) hx hb dL_way_12 rfl hl (by decide) rfl (fun ls hl => ?_)
  refine lv_iconst (v := nI 1) hx hb dL_way_13 (by decide +kernel) ?_
  exact W.iret hx hb hr (fun t ht hW => ⟨⟨_, (), rfl, rfl, trivial⟩, hS.F ht⟩) hS.2.2 dL_way_14
set_option maxHeartbeats 4000000 in
set_option maxRecDepth 100000 in
theorem wB_same (l : Launch) (dC : Nat → ClassId) (dI : Nat → Nat → Nat) (a : Nat → Nat) (k : Nat → ClassId) (fn ft gn gt gm : Nat → Int32) (fl : Int32) (o : Nat → Int64) (hst : l.stackTraces = false) (sz sa sb : Nat) (x1 x2 : Int32) (hbad : (nO x1 8 || nO x2 8) = true) : Met l yL_same wsL_same ({ frames := 8, cells := 1, slots := 6, locals := 140 }) (va_Pc [.ref (a 0), .int x1, .int x2, .ref (a 7)] (fun U => nPz sz sa sb U ∧ nPw dC dI a k fn ft gn gt gm fl o U)) (va_Qi (fun r (_ : Unit) => r = nI 1) (fun _ _ => True) (fun q => sz ≤ q)) 1 6 (fun q => sz ≤ q) := by
  refine va_MetW (cc := cL_same) (maxL := 5) (ret := (some .int)) (by decide) rfl ?_
  intro p e s m args below meth c s₁ B hml hv
  obtain ⟨rfl, hz, hP, hK⟩ := hv
  have hx := B.exec
  have hb := B.bytes
  have hr := B.returns
  have hts := atoms_spec (ws := wsL_same) B.pre
  have hown : s.vm.findClass RL = some m.cls := findClass_of_methodNamed B.named
  have hlocks := B.notSynchronized
  have hl := lv_entry ([.ref (a 0), .int x1, .int x2, .ref (a 7)]) (n := 5) (Nat.le_of_ble_eq_true rfl)
  rw [lg_entry_eq]
  generalize (lg_sl ([.ref (a 0), .int x1, .int x2, .ref (a 7)]) ++ List.replicate (5 - (lg_sl ([.ref (a 0), .int x1, .int x2, .ref (a 7)])).length) Slot.unset).toArray = ls at hl ⊢
  have hl : lv_has ls 5 [(0, .ref (a 0)), (1, .int x1), (2, .int x2), (3, .ref (a 7))] := hl
  have hS : va_S (fun q => sz ≤ q) s.heap s.heap [] := va_S.rf
  refine lv_aload_n hx hb dL_same_0 rfl (lv_at hl 3 rfl) ?_
  refine lv_iconst (v := nI 0) hx hb dL_same_1 (by decide +kernel) ?_
  refine lv_aload_n hx hb dL_same_2 rfl (lv_at hl 0 rfl) ?_
  refine lv_iload_n hx hb dL_same_3 rfl (lv_at hl 1 rfl) ?_
  refine lv_iload_n hx hb dL_same_4 rfl (lv_at hl 2 rfl) ?_
  refine vx_calli (vx_runV (As := [.int x1, .int x2]) (rest := [.int (nI 0), .ref (a 7)]) ⟨hx, hb, hml, hown, hts⟩ (x_same l hst sz sa sb (a 0) x1 x2 hbad) (cwV 2 hts gL_same_X0_same rfl rfl rfl (by decide +kernel) ⟨Nat.le_of_ble_eq_true rfl, Nat.le_of_ble_eq_true rfl⟩) (nPz_preV hz (va_recv hK hP (ci := 0) (q0 := 0) rfl rfl)) rfl rfl hl.1 rfl (lv_room (Nat.le_of_ble_eq_true rfl)) dL_same_5 ⟨Nat.le_of_ble_eq_true rfl, Nat.le_of_ble_eq_true rfl⟩) hS (fun _ _ h => h) (fun _ h => h) (fun _ _ h => h) (fun E ce q9 u t H1 locs1 ht hvm _ hE _ _ hS hce hcv hcl => ?_) (fun _ _ _ _ _ _ _ h _ _ _ _ => h.elim)
  have hE : E = "java/lang/IllegalArgumentException" := hE
  subst hE
  have htb := vx_table (x := yL_law) B (hts _ List.mem_cons_self)
  refine vx_catch (name := "java/lang/IllegalArgumentException") hown [] ⟨0, 17, 20, 13⟩ [] htb (fun z hz9 => absurd hz9 List.not_mem_nil) (by decide) (by decide) (hts (.classLink RL 13 "java/lang/IllegalArgumentException") (by decide +kernel)) (nCast hcl) hce hcv hcl ?_
  refine W.eq (g2 := F0 m 20 ls [.ref q9]) rfl ?_
  refine W.widen (k := 1) (n := 6) (Nat.le_of_ble_eq_true rfl) (Nat.le_of_ble_eq_true rfl) ?_
  refine lv_astore (lv' := [(4, .ref q9), (0, .ref (a 0)), (1, .int x1), (2, .int x2), (3, .ref (a 7))]) hx hb dL_same_20 hl (by decide) rfl (fun ls hl => ?_)
  refine lv_iconst (v := nI 1) hx hb dL_same_22 (by decide +kernel) ?_
  exact W.iret hx hb hr (fun t ht hW => ⟨⟨_, (), rfl, rfl, trivial⟩, hS.F ht⟩) hS.2.2 dL_same_23
set_option maxHeartbeats 4000000 in
set_option maxRecDepth 100000 in
theorem wB_tidy (l : Launch) (dC : Nat → ClassId) (dI : Nat → Nat → Nat) (a : Nat → Nat) (k : Nat → ClassId) (fn ft gn gt gm : Nat → Int32) (fl : Int32) (o : Nat → Int64) (hst : l.stackTraces = false) (sz sa sb : Nat) (x1 : Int32) (hbad : (nO x1 3) = true) : Met l yL_tidy wsL_tidy ({ frames := 8, cells := 1, slots := 6, locals := 140 }) (va_Pc [.ref (a 0), .int x1, .ref (a 7)] (fun U => nPz sz sa sb U ∧ nPw dC dI a k fn ft gn gt gm fl o U)) (va_Qi (fun r (_ : Unit) => r = nI 1) (fun _ _ => True) (fun q => sz ≤ q)) 1 6 (fun q => sz ≤ q) := by
  refine va_MetW (cc := cL_tidy) (maxL := 4) (ret := (some .int)) (by decide) rfl ?_
  intro p e s m args below meth c s₁ B hml hv
  obtain ⟨rfl, hz, hP, hK⟩ := hv
  have hx := B.exec
  have hb := B.bytes
  have hr := B.returns
  have hts := atoms_spec (ws := wsL_tidy) B.pre
  have hown : s.vm.findClass RL = some m.cls := findClass_of_methodNamed B.named
  have hlocks := B.notSynchronized
  have hl := lv_entry ([.ref (a 0), .int x1, .ref (a 7)]) (n := 4) (Nat.le_of_ble_eq_true rfl)
  rw [lg_entry_eq]
  generalize (lg_sl ([.ref (a 0), .int x1, .ref (a 7)]) ++ List.replicate (4 - (lg_sl ([.ref (a 0), .int x1, .ref (a 7)])).length) Slot.unset).toArray = ls at hl ⊢
  have hl : lv_has ls 4 [(0, .ref (a 0)), (1, .int x1), (2, .ref (a 7))] := hl
  have hS : va_S (fun q => sz ≤ q) s.heap s.heap [] := va_S.rf
  refine lv_aload_n hx hb dL_tidy_0 rfl (lv_at hl 2 rfl) ?_
  refine lv_iconst (v := nI 0) hx hb dL_tidy_1 (by decide +kernel) ?_
  refine lv_aload_n hx hb dL_tidy_2 rfl (lv_at hl 0 rfl) ?_
  refine lv_iload_n hx hb dL_tidy_3 rfl (lv_at hl 1 rfl) ?_
  refine vx_calli (vx_runV (As := [.int x1]) (rest := [.int (nI 0), .ref (a 7)]) ⟨hx, hb, hml, hown, hts⟩ (x_tidy l hst sz sa sb (a 0) x1 hbad) (cwV 1 hts gL_tidy_X0_tidy rfl rfl rfl (by decide +kernel) ⟨Nat.le_of_ble_eq_true rfl, Nat.le_of_ble_eq_true rfl⟩) (nPz_preV hz (va_recv hK hP (ci := 0) (q0 := 0) rfl rfl)) rfl rfl hl.1 rfl (lv_room (Nat.le_of_ble_eq_true rfl)) dL_tidy_4 ⟨Nat.le_of_ble_eq_true rfl, Nat.le_of_ble_eq_true rfl⟩) hS (fun _ _ h => h) (fun _ h => h) (fun _ _ h => h) (fun E ce q9 u t H1 locs1 ht hvm _ hE _ _ hS hce hcv hcl => ?_) (fun _ _ _ _ _ _ _ h _ _ _ _ => h.elim)
  have hE : E = "java/lang/IllegalArgumentException" := hE
  subst hE
  have htb := vx_table (x := yL_law) B (hts _ List.mem_cons_self)
  refine vx_catch (name := "java/lang/IllegalArgumentException") hown [] ⟨0, 9, 12, 13⟩ [] htb (fun z hz9 => absurd hz9 List.not_mem_nil) (by decide) (by decide) (hts (.classLink RL 13 "java/lang/IllegalArgumentException") (by decide +kernel)) (nCast hcl) hce hcv hcl ?_
  refine W.eq (g2 := F0 m 12 ls [.ref q9]) rfl ?_
  refine W.widen (k := 1) (n := 6) (Nat.le_of_ble_eq_true rfl) (Nat.le_of_ble_eq_true rfl) ?_
  refine lv_astore_n (lv' := [(3, .ref q9), (0, .ref (a 0)), (1, .int x1), (2, .ref (a 7))]) hx hb dL_tidy_12 rfl hl (by decide) rfl (fun ls hl => ?_)
  refine lv_iconst (v := nI 1) hx hb dL_tidy_13 (by decide +kernel) ?_
  exact W.iret hx hb hr (fun t ht hW => ⟨⟨_, (), rfl, rfl, trivial⟩, hS.F ht⟩) hS.2.2 dL_tidy_14
set_option maxHeartbeats 4000000 in
set_option maxRecDepth 100000 in
theorem wN_way (l : Launch) (dC : Nat → ClassId) (dI : Nat → Nat → Nat) (a : Nat → Nat) (k : Nat → ClassId) (fn ft gn gt gm : Nat → Int32) (fl : Int32) (o : Nat → Int64) (hst : l.stackTraces = false) (sz sa sb : Nat) (tr : Nat) (htr : tr < 8) (hn0 : ∀ j, j < 1024 → bt (ft j) tr = false) : Met l yL_way wsL_way ({ frames := 8, cells := 1, slots := 6, locals := 140 }) (va_Pc [.ref (a 0), .int (nI tr), .ref (a 7)] (fun U => nPz sz sa sb U ∧ nPw dC dI a k fn ft gn gt gm fl o U)) (va_Qi (fun r (_ : Unit) => r = nI 2) (fun _ _ => True) (fun q => sz ≤ q)) 1 6 (fun q => sz ≤ q) := by
  refine va_MetW (cc := cL_way) (maxL := 4) (ret := (some .int)) (by decide) rfl ?_
  intro p e s m args below meth c s₁ B hml hv
  obtain ⟨rfl, hz, hP, hK⟩ := hv
  have hx := B.exec
  have hb := B.bytes
  have hr := B.returns
  have hts := atoms_spec (ws := wsL_way) B.pre
  have hown : s.vm.findClass RL = some m.cls := findClass_of_methodNamed B.named
  have hlocks := B.notSynchronized
  have hl := lv_entry ([.ref (a 0), .int (nI tr), .ref (a 7)]) (n := 4) (Nat.le_of_ble_eq_true rfl)
  rw [lg_entry_eq]
  generalize (lg_sl ([.ref (a 0), .int (nI tr), .ref (a 7)]) ++ List.replicate (4 - (lg_sl ([.ref (a 0), .int (nI tr), .ref (a 7)])).length) Slot.unset).toArray = ls at hl ⊢
  have hl : lv_has ls 4 [(0, .ref (a 0)), (1, .int (nI tr)), (2, .ref (a 7))] := hl
  have hS : va_S (fun q => sz ≤ q) s.heap s.heap [] := va_S.rf
  refine lv_aload_n hx hb dL_way_0 rfl (lv_at hl 2 rfl) ?_
  refine lv_iconst (v := nI 0) hx hb dL_way_1 (by decide +kernel) ?_
  refine lv_aload_n hx hb dL_way_2 rfl (lv_at hl 0 rfl) ?_
  refine lv_iload_n hx hb dL_way_3 rfl (lv_at hl 1 rfl) ?_
  refine vx_calli (vx_runV (As := [.int (nI tr)]) (rest := [.int (nI 0), .ref (a 7)]) ⟨hx, hb, hml, hown, hts⟩ (x_wayN l dC dI a k fn ft gn gt gm fl o hst sz sa sb tr htr hn0) (cwV 1 hts gL_way_X0_way rfl rfl rfl (by decide +kernel) ⟨Nat.le_of_ble_eq_true rfl, Nat.le_of_ble_eq_true rfl⟩) (nPzw_preV hz hP hK (va_recv hK hP (ci := 0) (q0 := 0) rfl rfl)) rfl rfl hl.1 rfl (lv_room (Nat.le_of_ble_eq_true rfl)) dL_way_4 ⟨Nat.le_of_ble_eq_true rfl, Nat.le_of_ble_eq_true rfl⟩) hS (fun _ _ h => h) (fun _ h => h) (fun _ _ h => h) (fun E ce q9 u t H1 locs1 ht hvm _ hE _ _ hS hce hcv hcl => ?_) (fun _ _ _ _ _ _ _ h _ _ _ _ => h.elim)
  have hE : E = "java/util/NoSuchElementException" := hE
  subst hE
  have htb := vx_table (x := yL_law) B (hts _ List.mem_cons_self)
  refine vx_catch (name := "java/util/NoSuchElementException") hown [⟨0, 9, 12, 13⟩] ⟨0, 9, 15, 40⟩ [] htb (fun z hz9 => Or.inr (by rw [List.mem_singleton.mp hz9]; exact ⟨by decide, "java/lang/IllegalArgumentException", hts (.classLink RL 13 "java/lang/IllegalArgumentException") (by decide +kernel), hz.2.2.2.2.2.1⟩)) (by decide) (by decide) (hts (.classLink RL 40 "java/util/NoSuchElementException") (by decide +kernel)) (nCast hcl) hce hcv hcl ?_
  refine W.eq (g2 := F0 m 15 ls [.ref q9]) rfl ?_
  refine W.widen (k := 1) (n := 6) (Nat.le_of_ble_eq_true rfl) (Nat.le_of_ble_eq_true rfl) ?_
  refine lv_astore_n (lv' := [(3, .ref q9), (0, .ref (a 0)), (1, .int (nI tr)), (2, .ref (a 7))]) hx hb dL_way_15 rfl hl (by decide) rfl (fun ls hl => ?_)
  refine lv_iconst (v := nI 2) hx hb dL_way_16 (by decide +kernel) ?_
  exact W.iret hx hb hr (fun t ht hW => ⟨⟨_, (), rfl, rfl, trivial⟩, hS.F ht⟩) hS.2.2 dL_way_17
