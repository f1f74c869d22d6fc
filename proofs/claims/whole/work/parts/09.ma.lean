set_option maxHeartbeats 4000000 in
set_option maxRecDepth 100000 in
theorem m_thrown (l : Launch) (dC : Nat → ClassId) (dI : Nat → Nat → Nat) (a : Nat → Nat) (k : Nat → ClassId) (fn ft gn gt gm : Nat → Int32) (fl : Int32) (o : Nat → Int64)  : Met l yX1_thrown wsX1_thrown ({ frames := 0, cells := 0, slots := 0, locals := 0 }) (va_Pc [.ref (a 3)] (nPw dC dI a k fn ft gn gt gm fl o)) (vp_Si (fun r => r = fl)) 0 0 (fun _ => False) := by
  refine Met.ofW (cc := cX1_thrown) (maxL := 1) (ret := (some .int)) (by decide) rfl ?_
  intro p e s m args below meth c s₁ B hml hv
  obtain ⟨rfl, hP, hK⟩ := hv
  have hx := B.exec
  have hb := B.bytes
  have hr := B.returns
  have hts := atoms_spec (ws := wsX1_thrown) B.pre
  have hown : s.vm.findClass RX1 = some m.cls := findClass_of_methodNamed B.named
  have hlocks := B.notSynchronized
  have hl := lv_entry ([.ref (a 3)]) (n := 1) (Nat.le_of_ble_eq_true rfl)
  rw [lg_entry_eq]
  generalize (lg_sl ([.ref (a 3)]) ++ List.replicate (1 - (lg_sl ([.ref (a 3)])).length) Slot.unset).toArray = ls at hl ⊢
  have hl : lv_has ls 1 [(0, .ref (a 3))] := hl
  refine lv_aload_n hx hb dX1_thrown_0 rfl (lv_at hl 0 rfl) ?_
  refine va_get (D := (dC, dI)) (ci := 1) (v := .int fl) (C := RX1) (T := TX1) (N := 4) hx hb hts inX1_thrown hown hK hP 3 rfl rfl 0 (by decide) (hts (.fieldLink RX1 20 "NumberCircuitsModel" "failed" "I") (by decide +kernel)) (fun _ h9 => h9) rfl dX1_thrown_1 ?_
  exact W.iret hx hb hr (fun t ht hW => ⟨_, rfl, rfl, ht⟩) (fun _ h => absurd h List.not_mem_nil) dX1_thrown_4
set_option maxHeartbeats 4000000 in
set_option maxRecDepth 100000 in
theorem m_fail (l : Launch) (dC : Nat → ClassId) (dI : Nat → Nat → Nat) (a : Nat → Nat) (k : Nat → ClassId) (fn ft gn gt gm : Nat → Int32) (fl : Int32) (o : Nat → Int64) (hinj : nInj a) (cd : Int32) : Met l yX1_fail wsX1_fail ({ frames := 0, cells := 0, slots := 0, locals := 0 }) (va_Pc [.ref (a 3), .int cd] (nPw dC dI a k fn ft gn gt gm fl o)) (nQi (nI 0) (nPw dC dI a k fn ft gn gt gm cd o) a) 0 0 (nA0 a) := by
  refine Met.ofW (cc := cX1_fail) (maxL := 2) (ret := (some .int)) (by decide) rfl ?_
  intro p e s m args below meth c s₁ B hml hv
  obtain ⟨rfl, hP, hK⟩ := hv
  have hx := B.exec
  have hb := B.bytes
  have hr := B.returns
  have hts := atoms_spec (ws := wsX1_fail) B.pre
  have hown : s.vm.findClass RX1 = some m.cls := findClass_of_methodNamed B.named
  have hlocks := B.notSynchronized
  have hS : va_S (nA0 a) s.heap s.heap [] := va_S.rf
  have hl := lv_entry ([.ref (a 3), .int cd]) (n := 2) (Nat.le_of_ble_eq_true rfl)
  rw [lg_entry_eq]
  generalize (lg_sl ([.ref (a 3), .int cd]) ++ List.replicate (2 - (lg_sl ([.ref (a 3), .int cd])).length) Slot.unset).toArray = ls at hl ⊢
  have hl : lv_has ls 2 [(0, .ref (a 3)), (1, .int cd)] := hl
  refine lv_aload_n hx hb dX1_fail_0 rfl (lv_at hl 0 rfl) ?_
  refine lv_iload_n hx hb dX1_fail_1 rfl (lv_at hl 1 rfl) ?_
  refine va_put (D := (dC, dI)) (ci := 1) (v := .int cd) (ty := .int) (C := RX1) (T := TX1) (N := 4) hx hb hts inX1_fail tyX1 tyX1_ok nmX1 hown hK hP (nDA hinj) hS 3 rfl rfl 0 (by decide) (hts (.fieldLink RX1 20 "NumberCircuitsModel" "failed" "I") (by decide +kernel)) (fun _ h9 => h9) rfl (by decide +kernel) rfl rfl (Nat.le_of_ble_eq_true rfl) dX1_fail_2 (fun H locs hP _ hS => ?_)
  have hP : va_P (dC, dI) vwCl (nW a k fn ft gn gt gm cd o) H := hP
  refine lv_iconst (v := nI 0) hx hb dX1_fail_5 (by decide +kernel) ?_
  exact W.iret hx hb hr (fun t ht hW => ⟨⟨_, (), rfl, rfl, by rw [ht]; exact hP, va_K.moved hW.alike hK⟩, hS.F ht⟩) hS.2.2 dX1_fail_6
def nO (x : Int32) (n : Nat) : Bool := decide (x < 0) || !decide (x < nI n)
theorem nO_in {j n : Nat} (h : j < n) (hn : n < 2 ^ 31) : nO (nI j) n = false := by
  unfold nO
  rw [decide_eq_false (nI_pos (by omega)), decide_eq_true (nI_lt h hn)]; rfl
theorem nO_of {x : Int32} {n : Nat} (h : nO x n = false) (hn : n < 2 ^ 31) : ∃ j : Nat, j < n ∧ x = nI j := by
  unfold nO at h
  obtain ⟨h1, h2⟩ := Bool.or_eq_false_iff.mp h
  obtain ⟨j, hj, rfl⟩ := nI_of (of_decide_eq_false h1)
  have h3 : nI j < nI n := of_decide_eq_true (nnot h2)
  exact ⟨j, (nI_ltI hj hn).mp h3, rfl⟩
set_option maxHeartbeats 4000000 in
set_option maxRecDepth 100000 in
theorem m_out (l : Launch) (dC : Nat → ClassId) (dI : Nat → Nat → Nat) (a : Nat → Nat) (k : Nat → ClassId) (fn ft gn gt gm : Nat → Int32) (fl : Int32) (o : Nat → Int64) (x : Int32) (n : Nat) : Met l yX1_out wsX1_out ({ frames := 0, cells := 0, slots := 0, locals := 0 }) (va_Pc [.ref (a 3), .int x, .int (nI n)] (nPw dC dI a k fn ft gn gt gm fl o)) (vp_Si (fun r => r = nb (nO x n))) 0 0 (fun _ => False) := by
  refine Met.ofW (cc := cX1_out) (maxL := 3) (ret := (some .boolean)) (by decide) rfl ?_
  intro p e s m args below meth c s₁ B hml hv
  obtain ⟨rfl, hP, hK⟩ := hv
  have hx := B.exec
  have hb := B.bytes
  have hr := B.returns
  have hts := atoms_spec (ws := wsX1_out) B.pre
  have hown : s.vm.findClass RX1 = some m.cls := findClass_of_methodNamed B.named
  have hlocks := B.notSynchronized
  have hl := lv_entry ([.ref (a 3), .int x, .int (nI n)]) (n := 3) (Nat.le_of_ble_eq_true rfl)
  rw [lg_entry_eq]
  generalize (lg_sl ([.ref (a 3), .int x, .int (nI n)]) ++ List.replicate (3 - (lg_sl ([.ref (a 3), .int x, .int (nI n)])).length) Slot.unset).toArray = ls at hl ⊢
  have hl : lv_has ls 3 [(0, .ref (a 3)), (1, .int x), (2, .int (nI n))] := hl
  refine lv_iload_n hx hb dX1_out_0 rfl (lv_at hl 1 rfl) ?_
  refine lv_if_lt (tgt := 9) hx hb dX1_out_1 (by decide) (fun c1 => ?_) (fun c1 => ?_)
  · refine lv_iconst (v := nI 1) hx hb dX1_out_9 (by decide +kernel) ?_
    refine lv_goto (tgt := 14) hx hb dX1_out_10 (by decide) ?_
    exact W.zret hx hb hr (by decide +kernel) (fun t ht hW => ⟨_, rfl, (by unfold nO; rw [decide_eq_true c1]; rfl), ht⟩) (fun _ h => absurd h List.not_mem_nil) dX1_out_14
  · refine lv_iload_n hx hb dX1_out_4 rfl (lv_at hl 1 rfl) ?_
    refine lv_iload_n hx hb dX1_out_5 rfl (lv_at hl 2 rfl) ?_
    refine lv_icmp_lt (tgt := 13) hx hb dX1_out_6 (by decide) (fun c2 => ?_) (fun c2 => ?_)
    · refine lv_iconst (v := nI 0) hx hb dX1_out_13 (by decide +kernel) ?_
      exact W.zret hx hb hr (by decide +kernel) (fun t ht hW => ⟨_, rfl, (by unfold nO; rw [decide_eq_false c1, decide_eq_true c2]; rfl), ht⟩) (fun _ h => absurd h List.not_mem_nil) dX1_out_14
    · refine lv_iconst (v := nI 1) hx hb dX1_out_9 (by decide +kernel) ?_
      refine lv_goto (tgt := 14) hx hb dX1_out_10 (by decide) ?_
      exact W.zret hx hb hr (by decide +kernel) (fun t ht hW => ⟨_, rfl, (by unfold nO; rw [decide_eq_false c1, decide_eq_false c2]; rfl), ht⟩) (fun _ h => absurd h List.not_mem_nil) dX1_out_14
set_option maxHeartbeats 4000000 in
set_option maxRecDepth 100000 in
theorem m_constant (l : Launch) (dC : Nat → ClassId) (dI : Nat → Nat → Nat) (a : Nat → Nat) (k : Nat → ClassId) (fn ft gn gt gm : Nat → Int32) (fl : Int32) (o : Nat → Int64) (hinj : nInj a) (sl : Nat) (v : Int32) (hsl : sl < 8) : Met l yX1_constant wsX1_constant ({ frames := 1, cells := 0, slots := 0, locals := 40 }) (va_Pc [.ref (a 3), .int (nI sl), .int v] (nPw dC dI a k fn ft gn gt gm fl o)) (nQv (nPw dC dI a k fn ft (nF gn (1024 * sl) 1024 (mvK v)) gt gm (nI 0) o) a) 0 0 (nA0 a) := by
  refine Met.ofW (cc := cX1_constant) (maxL := 4) (ret := none) (by decide) rfl ?_
  intro p e s m args below meth c s₁ B hml hv
  obtain ⟨rfl, hP, hK⟩ := hv
  have hx := B.exec
  have hb := B.bytes
  have hr := B.returns
  have hts := atoms_spec (ws := wsX1_constant) B.pre
  have hown : s.vm.findClass RX1 = some m.cls := findClass_of_methodNamed B.named
  have hlocks := B.notSynchronized
  have hS : va_S (nA0 a) s.heap s.heap [] := va_S.rf
  have hl := lv_entry ([.ref (a 3), .int (nI sl), .int v]) (n := 4) (Nat.le_of_ble_eq_true rfl)
  rw [lg_entry_eq]
  generalize (lg_sl ([.ref (a 3), .int (nI sl), .int v]) ++ List.replicate (4 - (lg_sl ([.ref (a 3), .int (nI sl), .int v])).length) Slot.unset).toArray = ls at hl ⊢
  have hl : lv_has ls 4 [(0, .ref (a 3)), (1, .int (nI sl)), (2, .int v)] := hl
  refine lv_aload_n hx hb dX1_constant_0 rfl (lv_at hl 0 rfl) ?_
  refine lv_iconst (v := nI 0) hx hb dX1_constant_1 (by decide +kernel) ?_
  refine va_put (D := (dC, dI)) (ci := 1) (v := .int (nI 0)) (ty := .int) (C := RX1) (T := TX1) (N := 4) hx hb hts inX1_constant tyX1 tyX1_ok nmX1 hown hK hP (nDA hinj) hS 3 rfl rfl 0 (by decide) (hts (.fieldLink RX1 20 "NumberCircuitsModel" "failed" "I") (by decide +kernel)) (fun _ h9 => h9) rfl (by decide +kernel) rfl rfl (Nat.le_of_ble_eq_true rfl) dX1_constant_2 (fun H locs hP _ hS => ?_)
  have hP : va_P (dC, dI) vwCl (nW a k fn ft gn gt gm (nI 0) o) H := hP
  refine lv_aload_n hx hb dX1_constant_5 rfl (lv_at hl 0 rfl) ?_
  refine lv_iload_n hx hb dX1_constant_6 rfl (lv_at hl 1 rfl) ?_
  refine lv_bipush (v := nI 8) hx hb dX1_constant_7 (by decide +kernel) ?_
  refine vp_callSi (W.runV (As := [.int (nI sl), .int (nI 8)]) (rest := []) ⟨hx, hb, hml, hown, hts⟩ (m_out l dC dI a k fn ft gn gt gm (nI 0) o (nI sl) 8) (cwV 2 hts gX1_constant_X1_out rfl rfl rfl (by decide +kernel) ⟨Nat.le_of_ble_eq_true rfl, Nat.le_of_ble_eq_true rfl⟩) (nPreV hP hK (va_recv hK hP (ci := 1) (q0 := 3) rfl rfl)) rfl rfl hl.1 rfl (lv_room (Nat.le_of_ble_eq_true rfl)) dX1_constant_9 ⟨Nat.zero_le _, Nat.zero_le _⟩) (fun r_9_1 er_9_1 => ?_)
  rw [nO_in (by omega) (by decide)] at er_9_1
  subst er_9_1
  refine lv_if_eq (tgt := 23) hx hb dX1_constant_12 (by decide) (fun _ => ?_) (fun c => absurd c (by decide +kernel))
  refine lv_iconst (v := nI 0) hx hb dX1_constant_23 (by decide +kernel) ?_
  refine lv_istore_n (lv' := [(3, .int (nI 0)), (0, .ref (a 3)), (1, .int (nI sl)), (2, .int v)]) hx hb dX1_constant_24 rfl hl (by decide) rfl (fun ls hl => ?_)
  refine nc_loop 1024 (fun w H locs ls => va_P (dC, dI) vwCl (nW a k fn ft (nF gn (1024 * sl) w (mvK v)) gt gm (nI 0) o) H ∧ va_S (nA0 a) s.heap H locs ∧ lv_has ls 4 [(3, .int (nI w)), (0, .ref (a 3)), (1, .int (nI sl)), (2, .int v)]) ⟨(by rw [nF_0]; exact hP), hS, (lv_sub hl [0, 1, 2, 3] rfl)⟩ ?_
  intro w H locs ls hw hI ih
  obtain ⟨hP, hS, hl⟩ := hI
  refine lv_iload_n hx hb dX1_constant_25 rfl (lv_at hl 0 rfl) ?_
  refine lv_sipush (v := nI 1024) hx hb dX1_constant_26 (by decide +kernel) ?_
  refine lv_icmp_ge (tgt := 52) hx hb dX1_constant_29 (by decide) (fun c1 => ?_) (fun c1 => ?_)
  · obtain rfl : w = 1024 := nHi (by decide) hw c1
    exact W.vret hx hb hr (fun t ht hW => ⟨⟨(), rfl, trivial, by rw [ht]; exact hP, va_K.moved hW.alike hK⟩, hS.F ht⟩) hS.2.2 dX1_constant_52
  · have hlt : w < 1024 := nLo (by decide) hw c1
    refine lv_aload_n hx hb dX1_constant_32 rfl (lv_at hl 1 rfl) ?_
    refine va_get (D := (dC, dI)) (ci := 1) (v := .ref (a 4)) (C := RX1) (T := TX1) (N := 4) hx hb hts inX1_constant hown hK hP 3 rfl rfl 1 (by decide) (hts (.fieldLink RX1 7 "NumberCircuitsModel" "numbers" "[I") (by decide +kernel)) (fun _ h9 => h9) rfl dX1_constant_33 ?_
    refine lv_sipush (v := nI 1024) hx hb dX1_constant_36 (by decide +kernel) ?_
    refine lv_iload_n hx hb dX1_constant_39 rfl (lv_at hl 2 rfl) ?_
    refine lv_imul hx hb dX1_constant_40 ?_
    refine lv_iload_n hx hb dX1_constant_41 rfl (lv_at hl 0 rfl) ?_
    refine lv_iadd hx hb dX1_constant_42 ?_
    refine lv_topi (fun x_43_2 ex_43_2 => ?_)
    obtain rfl : x_43_2 = nI (1024 * sl + w) := by rw [ex_43_2]; rw [pk_mul, nI_add]
    refine lv_iload_n hx hb dX1_constant_43 rfl (lv_at hl 3 rfl) ?_
    refine lv_i2s hx hb dX1_constant_44 rfl ?_
    refine va_iast (i := nI (1024 * sl + w)) (x := v.toInt16.toInt32) hx hb hK hP (nDA hinj) hS 4 2 rfl rfl (vp_in_nI (by omega) (by decide)) dX1_constant_45 (fun H locs hP _ hS => ?_)
    have e_45_3 : upd (nF gn (1024 * sl) w (mvK v)) (nI (1024 * sl + w)).toNatClampNeg v.toInt16.toInt32 = nF gn (1024 * sl) (w + 1) (mvK v) := nF_up (by omega) rfl
    have hP : va_P (dC, dI) vwCl (nW a k fn ft (nF gn (1024 * sl) (w + 1) (mvK v)) gt gm (nI 0) o) H := by rw [← e_45_3]; exact hP
    refine lv_iinc (v := nI (w + 1)) (lv' := [(3, .int (nI (w + 1))), (0, .ref (a 3)), (1, .int (nI sl)), (2, .int v)]) hx hb dX1_constant_46 hl (k := 0) rfl (nI_1 w) (by decide) rfl (fun ls hl => ?_)
    refine lv_goto (tgt := 25) hx hb dX1_constant_49 (by decide) ?_
    exact ih hlt _ _ _ ⟨hP, hS, (lv_sub hl [0, 1, 2, 3] rfl)⟩
set_option maxHeartbeats 4000000 in
set_option maxRecDepth 100000 in
theorem m_unknown (l : Launch) (dC : Nat → ClassId) (dI : Nat → Nat → Nat) (a : Nat → Nat) (k : Nat → ClassId) (fn ft gn gt gm : Nat → Int32) (fl : Int32) (o : Nat → Int64) (hinj : nInj a) (sl fi ct : Nat) (lo : Int32) (hsl : sl < 8) (hfi : fi ≤ 10) (hct : fi + ct ≤ 10) : Met l yX1_unknown wsX1_unknown ({ frames := 1, cells := 0, slots := 0, locals := 40 }) (va_Pc [.ref (a 3), .int (nI sl), .int (nI fi), .int (nI ct), .int lo] (nPw dC dI a k fn ft gn gt gm fl o)) (nQv (nPw dC dI a k fn ft (nF gn (1024 * sl) 1024 (mvU fi ct lo)) gt gm (nI 0) o) a) 0 0 (nA0 a) := by
  refine Met.ofW (cc := cX1_unknown) (maxL := 6) (ret := none) (by decide) rfl ?_
  intro p e s m args below meth c s₁ B hml hv
  obtain ⟨rfl, hP, hK⟩ := hv
  have hx := B.exec
  have hb := B.bytes
  have hr := B.returns
  have hts := atoms_spec (ws := wsX1_unknown) B.pre
  have hown : s.vm.findClass RX1 = some m.cls := findClass_of_methodNamed B.named
  have hlocks := B.notSynchronized
  have hS : va_S (nA0 a) s.heap s.heap [] := va_S.rf
  have hl := lv_entry ([.ref (a 3), .int (nI sl), .int (nI fi), .int (nI ct), .int lo]) (n := 6) (Nat.le_of_ble_eq_true rfl)
  rw [lg_entry_eq]
  generalize (lg_sl ([.ref (a 3), .int (nI sl), .int (nI fi), .int (nI ct), .int lo]) ++ List.replicate (6 - (lg_sl ([.ref (a 3), .int (nI sl), .int (nI fi), .int (nI ct), .int lo])).length) Slot.unset).toArray = ls at hl ⊢
  have hl : lv_has ls 6 [(0, .ref (a 3)), (1, .int (nI sl)), (2, .int (nI fi)), (3, .int (nI ct)), (4, .int lo)] := hl
  refine lv_aload_n hx hb dX1_unknown_0 rfl (lv_at hl 0 rfl) ?_
  refine lv_iconst (v := nI 0) hx hb dX1_unknown_1 (by decide +kernel) ?_
  refine va_put (D := (dC, dI)) (ci := 1) (v := .int (nI 0)) (ty := .int) (C := RX1) (T := TX1) (N := 4) hx hb hts inX1_unknown tyX1 tyX1_ok nmX1 hown hK hP (nDA hinj) hS 3 rfl rfl 0 (by decide) (hts (.fieldLink RX1 20 "NumberCircuitsModel" "failed" "I") (by decide +kernel)) (fun _ h9 => h9) rfl (by decide +kernel) rfl rfl (Nat.le_of_ble_eq_true rfl) dX1_unknown_2 (fun H locs hP _ hS => ?_)
  have hP : va_P (dC, dI) vwCl (nW a k fn ft gn gt gm (nI 0) o) H := hP
  refine lv_aload_n hx hb dX1_unknown_5 rfl (lv_at hl 0 rfl) ?_
  refine lv_iload_n hx hb dX1_unknown_6 rfl (lv_at hl 1 rfl) ?_
  refine lv_bipush (v := nI 8) hx hb dX1_unknown_7 (by decide +kernel) ?_
  refine vp_callSi (W.runV (As := [.int (nI sl), .int (nI 8)]) (rest := []) ⟨hx, hb, hml, hown, hts⟩ (m_out l dC dI a k fn ft gn gt gm (nI 0) o (nI sl) 8) (cwV 2 hts gX1_unknown_X1_out rfl rfl rfl (by decide +kernel) ⟨Nat.le_of_ble_eq_true rfl, Nat.le_of_ble_eq_true rfl⟩) (nPreV hP hK (va_recv hK hP (ci := 1) (q0 := 3) rfl rfl)) rfl rfl hl.1 rfl (lv_room (Nat.le_of_ble_eq_true rfl)) dX1_unknown_9 ⟨Nat.zero_le _, Nat.zero_le _⟩) (fun r_9_1 er_9_1 => ?_)
  rw [nO_in (by omega) (by decide)] at er_9_1
  subst er_9_1
  refine lv_if_ne (tgt := 43) hx hb dX1_unknown_12 (by decide) (fun c => absurd c (by decide +kernel)) (fun _ => ?_)
  refine lv_aload_n hx hb dX1_unknown_15 rfl (lv_at hl 0 rfl) ?_
  refine lv_iload_n hx hb dX1_unknown_16 rfl (lv_at hl 2 rfl) ?_
  refine lv_bipush (v := nI 11) hx hb dX1_unknown_17 (by decide +kernel) ?_
  refine vp_callSi (W.runV (As := [.int (nI fi), .int (nI 11)]) (rest := []) ⟨hx, hb, hml, hown, hts⟩ (m_out l dC dI a k fn ft gn gt gm (nI 0) o (nI fi) 11) (cwV 2 hts gX1_unknown_X1_out rfl rfl rfl (by decide +kernel) ⟨Nat.le_of_ble_eq_true rfl, Nat.le_of_ble_eq_true rfl⟩) (nPreV hP hK (va_recv hK hP (ci := 1) (q0 := 3) rfl rfl)) rfl rfl hl.1 rfl (lv_room (Nat.le_of_ble_eq_true rfl)) dX1_unknown_19 ⟨Nat.zero_le _, Nat.zero_le _⟩) (fun r_19_2 er_19_2 => ?_)
  rw [nO_in (by omega) (by decide)] at er_19_2
  subst er_19_2
  refine lv_if_ne (tgt := 43) hx hb dX1_unknown_22 (by decide) (fun c => absurd c (by decide +kernel)) (fun _ => ?_)
  refine lv_aload_n hx hb dX1_unknown_25 rfl (lv_at hl 0 rfl) ?_
  refine lv_iload_n hx hb dX1_unknown_26 rfl (lv_at hl 3 rfl) ?_
  refine lv_bipush (v := nI 11) hx hb dX1_unknown_27 (by decide +kernel) ?_
  refine vp_callSi (W.runV (As := [.int (nI ct), .int (nI 11)]) (rest := []) ⟨hx, hb, hml, hown, hts⟩ (m_out l dC dI a k fn ft gn gt gm (nI 0) o (nI ct) 11) (cwV 2 hts gX1_unknown_X1_out rfl rfl rfl (by decide +kernel) ⟨Nat.le_of_ble_eq_true rfl, Nat.le_of_ble_eq_true rfl⟩) (nPreV hP hK (va_recv hK hP (ci := 1) (q0 := 3) rfl rfl)) rfl rfl hl.1 rfl (lv_room (Nat.le_of_ble_eq_true rfl)) dX1_unknown_29 ⟨Nat.zero_le _, Nat.zero_le _⟩) (fun r_29_3 er_29_3 => ?_)
  rw [nO_in (by omega) (by decide)] at er_29_3
  subst er_29_3
  refine lv_if_ne (tgt := 43) hx hb dX1_unknown_32 (by decide) (fun c => absurd c (by decide +kernel)) (fun _ => ?_)
  refine lv_iload_n hx hb dX1_unknown_35 rfl (lv_at hl 2 rfl) ?_
  refine lv_iload_n hx hb dX1_unknown_36 rfl (lv_at hl 3 rfl) ?_
  refine lv_iadd hx hb dX1_unknown_37 ?_
  refine lv_bipush (v := nI 10) hx hb dX1_unknown_38 (by decide +kernel) ?_
  refine lv_icmp_le (tgt := 51) hx hb dX1_unknown_40 (by decide) (fun c0 => ?_) (fun c0 => ?_)
  · refine lv_iconst (v := nI 0) hx hb dX1_unknown_51 (by decide +kernel) ?_
    refine lv_istore (lv' := [(5, .int (nI 0)), (0, .ref (a 3)), (1, .int (nI sl)), (2, .int (nI fi)), (3, .int (nI ct)), (4, .int lo)]) hx hb dX1_unknown_52 hl (by decide) rfl (fun ls hl => ?_)
    refine nc_loop 1024 (fun w H locs ls => va_P (dC, dI) vwCl (nW a k fn ft (nF gn (1024 * sl) w (mvU fi ct lo)) gt gm (nI 0) o) H ∧ va_S (nA0 a) s.heap H locs ∧ lv_has ls 6 [(5, .int (nI w)), (0, .ref (a 3)), (1, .int (nI sl)), (2, .int (nI fi)), (3, .int (nI ct)), (4, .int lo)]) ⟨(by rw [nF_0]; exact hP), hS, (lv_sub hl [0, 1, 2, 3, 4, 5] rfl)⟩ ?_
    intro w H locs ls hw hI ih
    obtain ⟨hP, hS, hl⟩ := hI
    refine lv_iload hx hb dX1_unknown_54 (lv_at hl 0 rfl) ?_
    refine lv_sipush (v := nI 1024) hx hb dX1_unknown_56 (by decide +kernel) ?_
    refine lv_icmp_ge (tgt := 95) hx hb dX1_unknown_59 (by decide) (fun c1 => ?_) (fun c1 => ?_)
    · obtain rfl : w = 1024 := nHi (by decide) hw c1
      exact W.vret hx hb hr (fun t ht hW => ⟨⟨(), rfl, trivial, by rw [ht]; exact hP, va_K.moved hW.alike hK⟩, hS.F ht⟩) hS.2.2 dX1_unknown_95
    · have hlt : w < 1024 := nLo (by decide) hw c1
      refine lv_aload_n hx hb dX1_unknown_62 rfl (lv_at hl 1 rfl) ?_
      refine va_get (D := (dC, dI)) (ci := 1) (v := .ref (a 4)) (C := RX1) (T := TX1) (N := 4) hx hb hts inX1_unknown hown hK hP 3 rfl rfl 1 (by decide) (hts (.fieldLink RX1 7 "NumberCircuitsModel" "numbers" "[I") (by decide +kernel)) (fun _ h9 => h9) rfl dX1_unknown_63 ?_
      refine lv_sipush (v := nI 1024) hx hb dX1_unknown_66 (by decide +kernel) ?_
      refine lv_iload_n hx hb dX1_unknown_69 rfl (lv_at hl 2 rfl) ?_
      refine lv_imul hx hb dX1_unknown_70 ?_
      refine lv_iload hx hb dX1_unknown_71 (lv_at hl 0 rfl) ?_
      refine lv_iadd hx hb dX1_unknown_73 ?_
      refine lv_topi (fun x_74_4 ex_74_4 => ?_)
      obtain rfl : x_74_4 = nI (1024 * sl + w) := by rw [ex_74_4]; rw [pk_mul, nI_add]
      refine lv_iload hx hb dX1_unknown_74 (lv_at hl 0 rfl) ?_
      refine lv_iload_n hx hb dX1_unknown_76 rfl (lv_at hl 3 rfl) ?_
      refine lv_ishr hx hb dX1_unknown_77 ?_
      refine lv_iconst (v := nI 1) hx hb dX1_unknown_78 (by decide +kernel) ?_
      refine lv_iload_n hx hb dX1_unknown_79 rfl (lv_at hl 4 rfl) ?_
      refine lv_ishl hx hb dX1_unknown_80 ?_
      refine lv_iconst (v := nI 1) hx hb dX1_unknown_81 (by decide +kernel) ?_
      refine lv_isub hx hb dX1_unknown_82 ?_
      refine lv_iand hx hb dX1_unknown_83 ?_
      refine lv_iload hx hb dX1_unknown_84 (lv_at hl 5 rfl) ?_
      refine lv_iadd hx hb dX1_unknown_86 ?_
      refine lv_i2s hx hb dX1_unknown_87 rfl ?_
      refine va_iast (i := nI (1024 * sl + w)) (x := ((((nI w) >>> ((nI fi) &&& 31)) &&& (((nI 1) <<< ((nI ct) &&& 31)) - (nI 1))) + lo).toInt16.toInt32) hx hb hK hP (nDA hinj) hS 4 2 rfl rfl (vp_in_nI (by omega) (by decide)) dX1_unknown_88 (fun H locs hP _ hS => ?_)
      have e_88_5 : upd (nF gn (1024 * sl) w (mvU fi ct lo)) (nI (1024 * sl + w)).toNatClampNeg (((((nI w) >>> ((nI fi) &&& 31)) &&& (((nI 1) <<< ((nI ct) &&& 31)) - (nI 1))) + lo).toInt16.toInt32) = nF gn (1024 * sl) (w + 1) (mvU fi ct lo) := nF_up (by omega) rfl
      have hP : va_P (dC, dI) vwCl (nW a k fn ft (nF gn (1024 * sl) (w + 1) (mvU fi ct lo)) gt gm (nI 0) o) H := by rw [← e_88_5]; exact hP
      refine lv_iinc (v := nI (w + 1)) (lv' := [(5, .int (nI (w + 1))), (0, .ref (a 3)), (1, .int (nI sl)), (2, .int (nI fi)), (3, .int (nI ct)), (4, .int lo)]) hx hb dX1_unknown_89 hl (k := 0) rfl (nI_1 w) (by decide) rfl (fun ls hl => ?_)
      refine lv_goto (tgt := 54) hx hb dX1_unknown_92 (by decide) ?_
      exact ih hlt _ _ _ ⟨hP, hS, (lv_sub hl [0, 1, 2, 3, 4, 5] rfl)⟩
  · exact absurd (by rw [nI_add]; exact nI_le (by omega) (by decide)) c0
set_option maxHeartbeats 4000000 in
set_option maxRecDepth 100000 in
theorem m_result (l : Launch) (dC : Nat → ClassId) (dI : Nat → Nat → Nat) (a : Nat → Nat) (k : Nat → ClassId) (fn ft gn gt gm : Nat → Int32) (fl : Int32) (o : Nat → Int64) (kd : Nat) (x y : Int32) (hkd : kd < 6) : Met l yX1_result wsX1_result ({ frames := 0, cells := 0, slots := 0, locals := 0 }) (va_Pc [.ref (a 3), .int (nI kd), .int x, .int y] (nPw dC dI a k fn ft gn gt gm fl o)) (vp_Si (fun r => r = nRs kd x y)) 0 0 (fun _ => False) := by
  refine Met.ofW (cc := cX1_result) (maxL := 4) (ret := (some .int)) (by decide) rfl ?_
  intro p e s m args below meth c s₁ B hml hv
  obtain ⟨rfl, hP, hK⟩ := hv
  have hx := B.exec
  have hb := B.bytes
  have hr := B.returns
  have hts := atoms_spec (ws := wsX1_result) B.pre
  have hown : s.vm.findClass RX1 = some m.cls := findClass_of_methodNamed B.named
  have hlocks := B.notSynchronized
  have hl := lv_entry ([.ref (a 3), .int (nI kd), .int x, .int y]) (n := 4) (Nat.le_of_ble_eq_true rfl)
  rw [lg_entry_eq]
  generalize (lg_sl ([.ref (a 3), .int (nI kd), .int x, .int y]) ++ List.replicate (4 - (lg_sl ([.ref (a 3), .int (nI kd), .int x, .int y])).length) Slot.unset).toArray = ls at hl ⊢
  have hl : lv_has ls 4 [(0, .ref (a 3)), (1, .int (nI kd)), (2, .int x), (3, .int y)] := hl
  refine lv_iload_n hx hb dX1_result_0 rfl (lv_at hl 1 rfl) ?_
  rcases (show kd = 0 ∨ kd = 1 ∨ kd = 2 ∨ kd = 3 ∨ kd = 4 ∨ kd = 5 by omega) with rfl | rfl | rfl | rfl | rfl | rfl
  · refine lv_tableIn (off := 35) (tgt := 36) hx hb dX1_result_1 (by decide +kernel) (by decide +kernel) (by decide +kernel) (by decide) ?_
    refine lv_iload_n hx hb dX1_result_36 rfl (lv_at hl 2 rfl) ?_
    refine lv_iload_n hx hb dX1_result_37 rfl (lv_at hl 3 rfl) ?_
    refine lv_iadd hx hb dX1_result_38 ?_
    refine lv_i2s hx hb dX1_result_39 rfl ?_
    exact W.iret hx hb hr (fun t ht hW => ⟨_, rfl, rfl, ht⟩) (fun _ h => absurd h List.not_mem_nil) dX1_result_40
  · refine lv_tableIn (off := 40) (tgt := 41) hx hb dX1_result_1 (by decide +kernel) (by decide +kernel) (by decide +kernel) (by decide) ?_
    refine lv_iload_n hx hb dX1_result_41 rfl (lv_at hl 2 rfl) ?_
    refine lv_iload_n hx hb dX1_result_42 rfl (lv_at hl 3 rfl) ?_
    refine lv_isub hx hb dX1_result_43 ?_
    refine lv_i2s hx hb dX1_result_44 rfl ?_
    exact W.iret hx hb hr (fun t ht hW => ⟨_, rfl, rfl, ht⟩) (fun _ h => absurd h List.not_mem_nil) dX1_result_45
  · refine lv_tableIn (off := 45) (tgt := 46) hx hb dX1_result_1 (by decide +kernel) (by decide +kernel) (by decide +kernel) (by decide) ?_
    refine lv_iload_n hx hb dX1_result_46 rfl (lv_at hl 2 rfl) ?_
    refine lv_iload_n hx hb dX1_result_47 rfl (lv_at hl 3 rfl) ?_
    refine lv_imul hx hb dX1_result_48 ?_
    refine lv_i2s hx hb dX1_result_49 rfl ?_
    exact W.iret hx hb hr (fun t ht hW => ⟨_, rfl, rfl, ht⟩) (fun _ h => absurd h List.not_mem_nil) dX1_result_50
  · refine lv_tableIn (off := 50) (tgt := 51) hx hb dX1_result_1 (by decide +kernel) (by decide +kernel) (by decide +kernel) (by decide) ?_
    refine lv_iload_n hx hb dX1_result_51 rfl (lv_at hl 3 rfl) ?_
    refine lv_if_ne (tgt := 59) hx hb dX1_result_52 (by decide) (fun cz => ?_) (fun cz => ?_)
    · refine lv_iload_n hx hb dX1_result_59 rfl (lv_at hl 2 rfl) ?_
      refine lv_iload_n hx hb dX1_result_60 rfl (lv_at hl 3 rfl) ?_
      refine lv_idiv hx hb dX1_result_61 cz ?_
      refine lv_i2s hx hb dX1_result_62 rfl ?_
      exact W.iret hx hb hr (fun t ht hW => ⟨_, rfl, (if_neg cz).symm, ht⟩) (fun _ h => absurd h List.not_mem_nil) dX1_result_63
    · refine lv_iconst (v := nI 0) hx hb dX1_result_55 (by decide +kernel) ?_
      refine lv_goto (tgt := 63) hx hb dX1_result_56 (by decide) ?_
      exact W.iret hx hb hr (fun t ht hW => ⟨_, rfl, (if_pos cz).symm, ht⟩) (fun _ h => absurd h List.not_mem_nil) dX1_result_63
  · refine lv_tableIn (off := 63) (tgt := 64) hx hb dX1_result_1 (by decide +kernel) (by decide +kernel) (by decide +kernel) (by decide) ?_
    refine lv_iload_n hx hb dX1_result_64 rfl (lv_at hl 3 rfl) ?_
    refine lv_if_ne (tgt := 72) hx hb dX1_result_65 (by decide) (fun cz => ?_) (fun cz => ?_)
    · refine lv_iload_n hx hb dX1_result_72 rfl (lv_at hl 2 rfl) ?_
      refine lv_iload_n hx hb dX1_result_73 rfl (lv_at hl 3 rfl) ?_
      refine lv_irem hx hb dX1_result_74 cz ?_
      exact W.iret hx hb hr (fun t ht hW => ⟨_, rfl, (if_neg cz).symm, ht⟩) (fun _ h => absurd h List.not_mem_nil) dX1_result_75
    · refine lv_iconst (v := nI 0) hx hb dX1_result_68 (by decide +kernel) ?_
      refine lv_goto (tgt := 75) hx hb dX1_result_69 (by decide) ?_
      exact W.iret hx hb hr (fun t ht hW => ⟨_, rfl, (if_pos cz).symm, ht⟩) (fun _ h => absurd h List.not_mem_nil) dX1_result_75
  · refine lv_tableOut (tgt := 76) hx hb dX1_result_1 (by decide +kernel) (by decide) ?_
    refine lv_iload_n hx hb dX1_result_76 rfl (lv_at hl 3 rfl) ?_
    refine lv_ineg hx hb dX1_result_77 ?_
    refine lv_i2s hx hb dX1_result_78 rfl ?_
    exact W.iret hx hb hr (fun t ht hW => ⟨_, rfl, rfl, ht⟩) (fun _ h => absurd h List.not_mem_nil) dX1_result_79
set_option maxHeartbeats 4000000 in
set_option maxRecDepth 100000 in
theorem m_reckon (l : Launch) (dC : Nat → ClassId) (dI : Nat → Nat → Nat) (a : Nat → Nat) (k : Nat → ClassId) (fn ft gn gt gm : Nat → Int32) (fl : Int32) (o : Nat → Int64) (hinj : nInj a) (sl kd p0 q0 : Nat) (hsl : sl < 8) (hkd : kd < 6) (hp0 : p0 < 8) (hq0 : q0 < 8) : Met l yX1_reckon wsX1_reckon ({ frames := 1, cells := 0, slots := 0, locals := 40 }) (va_Pc [.ref (a 3), .int (nI sl), .int (nI kd), .int (nI p0), .int (nI q0)] (nPw dC dI a k fn ft gn gt gm fl o)) (nQv (nPw dC dI a k fn ft (nF gn (1024 * sl) 1024 (mvR gn kd p0 q0)) gt (nF gm 0 1024 (mvR gn kd p0 q0)) (nI 0) o) a) 0 0 (nA0 a) := by
  refine Met.ofW (cc := cX1_reckon) (maxL := 6) (ret := none) (by decide) rfl ?_
  intro p e s m args below meth c s₁ B hml hv
  obtain ⟨rfl, hP, hK⟩ := hv
  have hx := B.exec
  have hb := B.bytes
  have hr := B.returns
  have hts := atoms_spec (ws := wsX1_reckon) B.pre
  have hown : s.vm.findClass RX1 = some m.cls := findClass_of_methodNamed B.named
  have hlocks := B.notSynchronized
  have hS : va_S (nA0 a) s.heap s.heap [] := va_S.rf
  have hl := lv_entry ([.ref (a 3), .int (nI sl), .int (nI kd), .int (nI p0), .int (nI q0)]) (n := 6) (Nat.le_of_ble_eq_true rfl)
  rw [lg_entry_eq]
  generalize (lg_sl ([.ref (a 3), .int (nI sl), .int (nI kd), .int (nI p0), .int (nI q0)]) ++ List.replicate (6 - (lg_sl ([.ref (a 3), .int (nI sl), .int (nI kd), .int (nI p0), .int (nI q0)])).length) Slot.unset).toArray = ls at hl ⊢
  have hl : lv_has ls 6 [(0, .ref (a 3)), (1, .int (nI sl)), (2, .int (nI kd)), (3, .int (nI p0)), (4, .int (nI q0))] := hl
  refine lv_aload_n hx hb dX1_reckon_0 rfl (lv_at hl 0 rfl) ?_
  refine lv_iconst (v := nI 0) hx hb dX1_reckon_1 (by decide +kernel) ?_
  refine va_put (D := (dC, dI)) (ci := 1) (v := .int (nI 0)) (ty := .int) (C := RX1) (T := TX1) (N := 4) hx hb hts inX1_reckon tyX1 tyX1_ok nmX1 hown hK hP (nDA hinj) hS 3 rfl rfl 0 (by decide) (hts (.fieldLink RX1 20 "NumberCircuitsModel" "failed" "I") (by decide +kernel)) (fun _ h9 => h9) rfl (by decide +kernel) rfl rfl (Nat.le_of_ble_eq_true rfl) dX1_reckon_2 (fun H locs hP _ hS => ?_)
  have hP : va_P (dC, dI) vwCl (nW a k fn ft gn gt gm (nI 0) o) H := hP
  refine lv_aload_n hx hb dX1_reckon_5 rfl (lv_at hl 0 rfl) ?_
  refine lv_iload_n hx hb dX1_reckon_6 rfl (lv_at hl 1 rfl) ?_
  refine lv_bipush (v := nI 8) hx hb dX1_reckon_7 (by decide +kernel) ?_
  refine vp_callSi (W.runV (As := [.int (nI sl), .int (nI 8)]) (rest := []) ⟨hx, hb, hml, hown, hts⟩ (m_out l dC dI a k fn ft gn gt gm (nI 0) o (nI sl) 8) (cwV 2 hts gX1_reckon_X1_out rfl rfl rfl (by decide +kernel) ⟨Nat.le_of_ble_eq_true rfl, Nat.le_of_ble_eq_true rfl⟩) (nPreV hP hK (va_recv hK hP (ci := 1) (q0 := 3) rfl rfl)) rfl rfl hl.1 rfl (lv_room (Nat.le_of_ble_eq_true rfl)) dX1_reckon_9 ⟨Nat.zero_le _, Nat.zero_le _⟩) (fun r_9_1 er_9_1 => ?_)
  rw [nO_in (by omega) (by decide)] at er_9_1
  subst er_9_1
  refine lv_if_ne (tgt := 46) hx hb dX1_reckon_12 (by decide) (fun c => absurd c (by decide +kernel)) (fun _ => ?_)
  refine lv_aload_n hx hb dX1_reckon_15 rfl (lv_at hl 0 rfl) ?_
  refine lv_iload_n hx hb dX1_reckon_16 rfl (lv_at hl 2 rfl) ?_
  refine lv_bipush (v := nI 6) hx hb dX1_reckon_17 (by decide +kernel) ?_
  refine vp_callSi (W.runV (As := [.int (nI kd), .int (nI 6)]) (rest := []) ⟨hx, hb, hml, hown, hts⟩ (m_out l dC dI a k fn ft gn gt gm (nI 0) o (nI kd) 6) (cwV 2 hts gX1_reckon_X1_out rfl rfl rfl (by decide +kernel) ⟨Nat.le_of_ble_eq_true rfl, Nat.le_of_ble_eq_true rfl⟩) (nPreV hP hK (va_recv hK hP (ci := 1) (q0 := 3) rfl rfl)) rfl rfl hl.1 rfl (lv_room (Nat.le_of_ble_eq_true rfl)) dX1_reckon_19 ⟨Nat.zero_le _, Nat.zero_le _⟩) (fun r_19_2 er_19_2 => ?_)
  rw [nO_in (by omega) (by decide)] at er_19_2
  subst er_19_2
  refine lv_if_ne (tgt := 46) hx hb dX1_reckon_22 (by decide) (fun c => absurd c (by decide +kernel)) (fun _ => ?_)
  refine lv_aload_n hx hb dX1_reckon_25 rfl (lv_at hl 0 rfl) ?_
  refine lv_iload_n hx hb dX1_reckon_26 rfl (lv_at hl 3 rfl) ?_
  refine lv_bipush (v := nI 8) hx hb dX1_reckon_27 (by decide +kernel) ?_
  refine vp_callSi (W.runV (As := [.int (nI p0), .int (nI 8)]) (rest := []) ⟨hx, hb, hml, hown, hts⟩ (m_out l dC dI a k fn ft gn gt gm (nI 0) o (nI p0) 8) (cwV 2 hts gX1_reckon_X1_out rfl rfl rfl (by decide +kernel) ⟨Nat.le_of_ble_eq_true rfl, Nat.le_of_ble_eq_true rfl⟩) (nPreV hP hK (va_recv hK hP (ci := 1) (q0 := 3) rfl rfl)) rfl rfl hl.1 rfl (lv_room (Nat.le_of_ble_eq_true rfl)) dX1_reckon_29 ⟨Nat.zero_le _, Nat.zero_le _⟩) (fun r_29_3 er_29_3 => ?_)
  rw [nO_in (by omega) (by decide)] at er_29_3
  subst er_29_3
  refine lv_if_ne (tgt := 46) hx hb dX1_reckon_32 (by decide) (fun c => absurd c (by decide +kernel)) (fun _ => ?_)
  refine lv_aload_n hx hb dX1_reckon_35 rfl (lv_at hl 0 rfl) ?_
  refine lv_iload hx hb dX1_reckon_36 (lv_at hl 4 rfl) ?_
  refine lv_bipush (v := nI 8) hx hb dX1_reckon_38 (by decide +kernel) ?_
  refine vp_callSi (W.runV (As := [.int (nI q0), .int (nI 8)]) (rest := []) ⟨hx, hb, hml, hown, hts⟩ (m_out l dC dI a k fn ft gn gt gm (nI 0) o (nI q0) 8) (cwV 2 hts gX1_reckon_X1_out rfl rfl rfl (by decide +kernel) ⟨Nat.le_of_ble_eq_true rfl, Nat.le_of_ble_eq_true rfl⟩) (nPreV hP hK (va_recv hK hP (ci := 1) (q0 := 3) rfl rfl)) rfl rfl hl.1 rfl (lv_room (Nat.le_of_ble_eq_true rfl)) dX1_reckon_40 ⟨Nat.zero_le _, Nat.zero_le _⟩) (fun r_40_4 er_40_4 => ?_)
  rw [nO_in (by omega) (by decide)] at er_40_4
  subst er_40_4
  refine lv_if_eq (tgt := 54) hx hb dX1_reckon_43 (by decide) (fun _ => ?_) (fun c => absurd c (by decide +kernel))
  refine lv_iconst (v := nI 0) hx hb dX1_reckon_54 (by decide +kernel) ?_
  refine lv_istore (lv' := [(5, .int (nI 0)), (0, .ref (a 3)), (1, .int (nI sl)), (2, .int (nI kd)), (3, .int (nI p0)), (4, .int (nI q0))]) hx hb dX1_reckon_55 hl (by decide) rfl (fun ls hl => ?_)
  refine nc_loop 1024 (fun w H locs ls => va_P (dC, dI) vwCl (nW a k fn ft gn gt (nF gm 0 w (mvR gn kd p0 q0)) (nI 0) o) H ∧ va_S (nA0 a) s.heap H locs ∧ lv_has ls 6 [(5, .int (nI w)), (0, .ref (a 3)), (1, .int (nI sl)), (2, .int (nI kd)), (3, .int (nI p0)), (4, .int (nI q0))]) ⟨(by rw [nF_0]; exact hP), hS, (lv_sub hl [0, 1, 2, 3, 4, 5] rfl)⟩ ?_
  intro w H locs ls hw hI ih
  obtain ⟨hP, hS, hl⟩ := hI
  refine lv_iload hx hb dX1_reckon_57 (lv_at hl 0 rfl) ?_
  refine lv_sipush (v := nI 1024) hx hb dX1_reckon_59 (by decide +kernel) ?_
  refine lv_icmp_ge (tgt := 110) hx hb dX1_reckon_62 (by decide) (fun c1 => ?_) (fun c1 => ?_)
  · obtain rfl : w = 1024 := nHi (by decide) hw c1
    refine lv_iconst (v := nI 0) hx hb dX1_reckon_110 (by decide +kernel) ?_
    refine lv_istore (lv' := [(5, .int (nI 0)), (0, .ref (a 3)), (1, .int (nI sl)), (2, .int (nI kd)), (3, .int (nI p0)), (4, .int (nI q0))]) hx hb dX1_reckon_111 hl (by decide) rfl (fun ls hl => ?_)
    refine nc_loop 1024 (fun w H locs ls => va_P (dC, dI) vwCl (nW a k fn ft (nF gn (1024 * sl) w (mvR gn kd p0 q0)) gt (nF gm 0 1024 (mvR gn kd p0 q0)) (nI 0) o) H ∧ va_S (nA0 a) s.heap H locs ∧ lv_has ls 6 [(5, .int (nI w)), (0, .ref (a 3)), (1, .int (nI sl)), (2, .int (nI kd)), (3, .int (nI p0)), (4, .int (nI q0))]) ⟨(by rw [nF_0]; exact hP), hS, (lv_sub hl [0, 1, 2, 3, 4, 5] rfl)⟩ ?_
    intro w H locs ls hw hI ih
    obtain ⟨hP, hS, hl⟩ := hI
    refine lv_iload hx hb dX1_reckon_113 (lv_at hl 0 rfl) ?_
    refine lv_sipush (v := nI 1024) hx hb dX1_reckon_115 (by decide +kernel) ?_
    refine lv_icmp_ge (tgt := 147) hx hb dX1_reckon_118 (by decide) (fun c1 => ?_) (fun c1 => ?_)
    · obtain rfl : w = 1024 := nHi (by decide) hw c1
      exact W.vret hx hb hr (fun t ht hW => ⟨⟨(), rfl, trivial, by rw [ht]; exact hP, va_K.moved hW.alike hK⟩, hS.F ht⟩) hS.2.2 dX1_reckon_147
    · have hlt : w < 1024 := nLo (by decide) hw c1
      refine lv_aload_n hx hb dX1_reckon_121 rfl (lv_at hl 1 rfl) ?_
      refine va_get (D := (dC, dI)) (ci := 1) (v := .ref (a 4)) (C := RX1) (T := TX1) (N := 4) hx hb hts inX1_reckon hown hK hP 3 rfl rfl 1 (by decide) (hts (.fieldLink RX1 7 "NumberCircuitsModel" "numbers" "[I") (by decide +kernel)) (fun _ h9 => h9) rfl dX1_reckon_122 ?_
      refine lv_sipush (v := nI 1024) hx hb dX1_reckon_125 (by decide +kernel) ?_
      refine lv_iload_n hx hb dX1_reckon_128 rfl (lv_at hl 2 rfl) ?_
      refine lv_imul hx hb dX1_reckon_129 ?_
      refine lv_iload hx hb dX1_reckon_130 (lv_at hl 0 rfl) ?_
      refine lv_iadd hx hb dX1_reckon_132 ?_
      refine lv_topi (fun x_133_5 ex_133_5 => ?_)
      obtain rfl : x_133_5 = nI (1024 * sl + w) := by rw [ex_133_5]; rw [pk_mul, nI_add]
      refine lv_aload_n hx hb dX1_reckon_133 rfl (lv_at hl 1 rfl) ?_
      refine va_get (D := (dC, dI)) (ci := 1) (v := .ref (a 6)) (C := RX1) (T := TX1) (N := 4) hx hb hts inX1_reckon hown hK hP 3 rfl rfl 3 (by decide) (hts (.fieldLink RX1 17 "NumberCircuitsModel" "made" "[I") (by decide +kernel)) (fun _ h9 => h9) rfl dX1_reckon_134 ?_
      refine lv_iload hx hb dX1_reckon_137 (lv_at hl 0 rfl) ?_
      refine va_iald (i := nI w) hx hb hK hP 6 4 rfl rfl (vp_in_nI (by omega) (by decide)) dX1_reckon_139 ?_
      refine lv_topi (fun x_140_6 ex_140_6 => ?_)
      obtain rfl : x_140_6 = (mvR gn kd p0 q0) w := by rw [ex_140_6]; rw [nI_clamp (show w < 2 ^ 31 by omega)]; exact nF_in0 hlt
      refine va_iast (i := nI (1024 * sl + w)) (x := (mvR gn kd p0 q0) w) hx hb hK hP (nDA hinj) hS 4 2 rfl rfl (vp_in_nI (by omega) (by decide)) dX1_reckon_140 (fun H locs hP _ hS => ?_)
      have e_140_7 : upd (nF gn (1024 * sl) w (mvR gn kd p0 q0)) (nI (1024 * sl + w)).toNatClampNeg ((mvR gn kd p0 q0) w) = nF gn (1024 * sl) (w + 1) (mvR gn kd p0 q0) := nF_up (by omega) rfl
      have hP : va_P (dC, dI) vwCl (nW a k fn ft (nF gn (1024 * sl) (w + 1) (mvR gn kd p0 q0)) gt (nF gm 0 1024 (mvR gn kd p0 q0)) (nI 0) o) H := by rw [← e_140_7]; exact hP
      refine lv_iinc (v := nI (w + 1)) (lv' := [(5, .int (nI (w + 1))), (0, .ref (a 3)), (1, .int (nI sl)), (2, .int (nI kd)), (3, .int (nI p0)), (4, .int (nI q0))]) hx hb dX1_reckon_141 hl (k := 0) rfl (nI_1 w) (by decide) rfl (fun ls hl => ?_)
      refine lv_goto (tgt := 113) hx hb dX1_reckon_144 (by decide) ?_
      exact ih hlt _ _ _ ⟨hP, hS, (lv_sub hl [0, 1, 2, 3, 4, 5] rfl)⟩
  · have hlt : w < 1024 := nLo (by decide) hw c1
    refine lv_aload_n hx hb dX1_reckon_65 rfl (lv_at hl 1 rfl) ?_
    refine va_get (D := (dC, dI)) (ci := 1) (v := .ref (a 6)) (C := RX1) (T := TX1) (N := 4) hx hb hts inX1_reckon hown hK hP 3 rfl rfl 3 (by decide) (hts (.fieldLink RX1 17 "NumberCircuitsModel" "made" "[I") (by decide +kernel)) (fun _ h9 => h9) rfl dX1_reckon_66 ?_
    refine lv_iload hx hb dX1_reckon_69 (lv_at hl 0 rfl) ?_
    refine lv_aload_n hx hb dX1_reckon_71 rfl (lv_at hl 1 rfl) ?_
    refine lv_iload_n hx hb dX1_reckon_72 rfl (lv_at hl 3 rfl) ?_
    refine lv_aload_n hx hb dX1_reckon_73 rfl (lv_at hl 1 rfl) ?_
    refine va_get (D := (dC, dI)) (ci := 1) (v := .ref (a 4)) (C := RX1) (T := TX1) (N := 4) hx hb hts inX1_reckon hown hK hP 3 rfl rfl 1 (by decide) (hts (.fieldLink RX1 7 "NumberCircuitsModel" "numbers" "[I") (by decide +kernel)) (fun _ h9 => h9) rfl dX1_reckon_74 ?_
    refine lv_sipush (v := nI 1024) hx hb dX1_reckon_77 (by decide +kernel) ?_
    refine lv_iload_n hx hb dX1_reckon_80 rfl (lv_at hl 4 rfl) ?_
    refine lv_imul hx hb dX1_reckon_81 ?_
    refine lv_iload hx hb dX1_reckon_82 (lv_at hl 0 rfl) ?_
    refine lv_iadd hx hb dX1_reckon_84 ?_
    refine lv_topi (fun x_85_5 ex_85_5 => ?_)
    obtain rfl : x_85_5 = nI (1024 * p0 + w) := by rw [ex_85_5]; rw [pk_mul, nI_add]
    refine va_iald (i := nI (1024 * p0 + w)) hx hb hK hP 4 2 rfl rfl (vp_in_nI (by omega) (by decide)) dX1_reckon_85 ?_
    refine lv_topi (fun x_86_6 ex_86_6 => ?_)
    obtain rfl : x_86_6 = gn (1024 * p0 + w) := by rw [ex_86_6]; rw [nI_clamp (show 1024 * p0 + w < 2 ^ 31 by omega)]
    refine lv_aload_n hx hb dX1_reckon_86 rfl (lv_at hl 1 rfl) ?_
    refine va_get (D := (dC, dI)) (ci := 1) (v := .ref (a 4)) (C := RX1) (T := TX1) (N := 4) hx hb hts inX1_reckon hown hK hP 3 rfl rfl 1 (by decide) (hts (.fieldLink RX1 7 "NumberCircuitsModel" "numbers" "[I") (by decide +kernel)) (fun _ h9 => h9) rfl dX1_reckon_87 ?_
    refine lv_sipush (v := nI 1024) hx hb dX1_reckon_90 (by decide +kernel) ?_
    refine lv_iload hx hb dX1_reckon_93 (lv_at hl 5 rfl) ?_
    refine lv_imul hx hb dX1_reckon_95 ?_
    refine lv_iload hx hb dX1_reckon_96 (lv_at hl 0 rfl) ?_
    refine lv_iadd hx hb dX1_reckon_98 ?_
    refine lv_topi (fun x_99_7 ex_99_7 => ?_)
    obtain rfl : x_99_7 = nI (1024 * q0 + w) := by rw [ex_99_7]; rw [pk_mul, nI_add]
    refine va_iald (i := nI (1024 * q0 + w)) hx hb hK hP 4 2 rfl rfl (vp_in_nI (by omega) (by decide)) dX1_reckon_99 ?_
    refine lv_topi (fun x_100_8 ex_100_8 => ?_)
    obtain rfl : x_100_8 = gn (1024 * q0 + w) := by rw [ex_100_8]; rw [nI_clamp (show 1024 * q0 + w < 2 ^ 31 by omega)]
    refine vp_callSi (W.runV (As := [.int (nI kd), .int (gn (1024 * p0 + w)), .int (gn (1024 * q0 + w))]) (rest := [.int (nI w), .ref (a 6)]) ⟨hx, hb, hml, hown, hts⟩ (m_result l dC dI a k fn ft gn gt (nF gm 0 w (mvR gn kd p0 q0)) (nI 0) o kd (gn (1024 * p0 + w)) (gn (1024 * q0 + w)) hkd) (cwV 3 hts gX1_reckon_X1_result rfl rfl rfl (by decide +kernel) ⟨Nat.le_of_ble_eq_true rfl, Nat.le_of_ble_eq_true rfl⟩) (nPreV hP hK (va_recv hK hP (ci := 1) (q0 := 3) rfl rfl)) rfl rfl hl.1 rfl (lv_room (Nat.le_of_ble_eq_true rfl)) dX1_reckon_100 ⟨Nat.zero_le _, Nat.zero_le _⟩) (fun r_100_9 er_100_9 => ?_)
    subst er_100_9
    refine va_iast (i := nI w) (x := nRs kd (gn (1024 * p0 + w)) (gn (1024 * q0 + w))) hx hb hK hP (nDA hinj) hS 6 4 rfl rfl (vp_in_nI (by omega) (by decide)) dX1_reckon_103 (fun H locs hP _ hS => ?_)
    have e_103_10 : upd (nF gm 0 w (mvR gn kd p0 q0)) (nI w).toNatClampNeg (nRs kd (gn (1024 * p0 + w)) (gn (1024 * q0 + w))) = nF gm 0 (w + 1) (mvR gn kd p0 q0) := nF_up0 (by omega) rfl
    have hP : va_P (dC, dI) vwCl (nW a k fn ft gn gt (nF gm 0 (w + 1) (mvR gn kd p0 q0)) (nI 0) o) H := by rw [← e_103_10]; exact hP
    refine lv_iinc (v := nI (w + 1)) (lv' := [(5, .int (nI (w + 1))), (0, .ref (a 3)), (1, .int (nI sl)), (2, .int (nI kd)), (3, .int (nI p0)), (4, .int (nI q0))]) hx hb dX1_reckon_104 hl (k := 0) rfl (nI_1 w) (by decide) rfl (fun ls hl => ?_)
    refine lv_goto (tgt := 57) hx hb dX1_reckon_107 (by decide) ?_
    exact ih hlt _ _ _ ⟨hP, hS, (lv_sub hl [0, 1, 2, 3, 4, 5] rfl)⟩
set_option maxHeartbeats 4000000 in
set_option maxRecDepth 100000 in
theorem m_choose (l : Launch) (dC : Nat → ClassId) (dI : Nat → Nat → Nat) (a : Nat → Nat) (k : Nat → ClassId) (fn ft gn gt gm : Nat → Int32) (fl : Int32) (o : Nat → Int64) (hinj : nInj a) (tb : Nat → Nat → Bool) (htb : ∀ t w : Nat, t < 8 → w < 1024 → gt (1024 * t + w) = nb (tb t w)) (sl tr p0 q0 : Nat) (hsl : sl < 8) (htr : tr < 8) (hp0 : p0 < 8) (hq0 : q0 < 8) : Met l yX1_choose wsX1_choose ({ frames := 1, cells := 0, slots := 0, locals := 40 }) (va_Pc [.ref (a 3), .int (nI sl), .int (nI tr), .int (nI p0), .int (nI q0)] (nPw dC dI a k fn ft gn gt gm fl o)) (nQv (nPw dC dI a k fn ft (nF gn (1024 * sl) 1024 (mvH gn tb tr p0 q0)) gt (nF gm 0 1024 (mvH gn tb tr p0 q0)) (nI 0) o) a) 0 0 (nA0 a) := by
  refine Met.ofW (cc := cX1_choose) (maxL := 6) (ret := none) (by decide) rfl ?_
  intro p e s m args below meth c s₁ B hml hv
  obtain ⟨rfl, hP, hK⟩ := hv
  have hx := B.exec
  have hb := B.bytes
  have hr := B.returns
  have hts := atoms_spec (ws := wsX1_choose) B.pre
  have hown : s.vm.findClass RX1 = some m.cls := findClass_of_methodNamed B.named
  have hlocks := B.notSynchronized
  have hS : va_S (nA0 a) s.heap s.heap [] := va_S.rf
  have hl := lv_entry ([.ref (a 3), .int (nI sl), .int (nI tr), .int (nI p0), .int (nI q0)]) (n := 6) (Nat.le_of_ble_eq_true rfl)
  rw [lg_entry_eq]
  generalize (lg_sl ([.ref (a 3), .int (nI sl), .int (nI tr), .int (nI p0), .int (nI q0)]) ++ List.replicate (6 - (lg_sl ([.ref (a 3), .int (nI sl), .int (nI tr), .int (nI p0), .int (nI q0)])).length) Slot.unset).toArray = ls at hl ⊢
  have hl : lv_has ls 6 [(0, .ref (a 3)), (1, .int (nI sl)), (2, .int (nI tr)), (3, .int (nI p0)), (4, .int (nI q0))] := hl
  refine lv_aload_n hx hb dX1_choose_0 rfl (lv_at hl 0 rfl) ?_
  refine lv_iconst (v := nI 0) hx hb dX1_choose_1 (by decide +kernel) ?_
  refine va_put (D := (dC, dI)) (ci := 1) (v := .int (nI 0)) (ty := .int) (C := RX1) (T := TX1) (N := 4) hx hb hts inX1_choose tyX1 tyX1_ok nmX1 hown hK hP (nDA hinj) hS 3 rfl rfl 0 (by decide) (hts (.fieldLink RX1 20 "NumberCircuitsModel" "failed" "I") (by decide +kernel)) (fun _ h9 => h9) rfl (by decide +kernel) rfl rfl (Nat.le_of_ble_eq_true rfl) dX1_choose_2 (fun H locs hP _ hS => ?_)
  have hP : va_P (dC, dI) vwCl (nW a k fn ft gn gt gm (nI 0) o) H := hP
  refine lv_aload_n hx hb dX1_choose_5 rfl (lv_at hl 0 rfl) ?_
  refine lv_iload_n hx hb dX1_choose_6 rfl (lv_at hl 1 rfl) ?_
  refine lv_bipush (v := nI 8) hx hb dX1_choose_7 (by decide +kernel) ?_
  refine vp_callSi (W.runV (As := [.int (nI sl), .int (nI 8)]) (rest := []) ⟨hx, hb, hml, hown, hts⟩ (m_out l dC dI a k fn ft gn gt gm (nI 0) o (nI sl) 8) (cwV 2 hts gX1_choose_X1_out rfl rfl rfl (by decide +kernel) ⟨Nat.le_of_ble_eq_true rfl, Nat.le_of_ble_eq_true rfl⟩) (nPreV hP hK (va_recv hK hP (ci := 1) (q0 := 3) rfl rfl)) rfl rfl hl.1 rfl (lv_room (Nat.le_of_ble_eq_true rfl)) dX1_choose_9 ⟨Nat.zero_le _, Nat.zero_le _⟩) (fun r_9_1 er_9_1 => ?_)
  rw [nO_in (by omega) (by decide)] at er_9_1
  subst er_9_1
  refine lv_if_ne (tgt := 46) hx hb dX1_choose_12 (by decide) (fun c => absurd c (by decide +kernel)) (fun _ => ?_)
  refine lv_aload_n hx hb dX1_choose_15 rfl (lv_at hl 0 rfl) ?_
  refine lv_iload_n hx hb dX1_choose_16 rfl (lv_at hl 2 rfl) ?_
  refine lv_bipush (v := nI 8) hx hb dX1_choose_17 (by decide +kernel) ?_
  refine vp_callSi (W.runV (As := [.int (nI tr), .int (nI 8)]) (rest := []) ⟨hx, hb, hml, hown, hts⟩ (m_out l dC dI a k fn ft gn gt gm (nI 0) o (nI tr) 8) (cwV 2 hts gX1_choose_X1_out rfl rfl rfl (by decide +kernel) ⟨Nat.le_of_ble_eq_true rfl, Nat.le_of_ble_eq_true rfl⟩) (nPreV hP hK (va_recv hK hP (ci := 1) (q0 := 3) rfl rfl)) rfl rfl hl.1 rfl (lv_room (Nat.le_of_ble_eq_true rfl)) dX1_choose_19 ⟨Nat.zero_le _, Nat.zero_le _⟩) (fun r_19_2 er_19_2 => ?_)
  rw [nO_in (by omega) (by decide)] at er_19_2
  subst er_19_2
  refine lv_if_ne (tgt := 46) hx hb dX1_choose_22 (by decide) (fun c => absurd c (by decide +kernel)) (fun _ => ?_)
  refine lv_aload_n hx hb dX1_choose_25 rfl (lv_at hl 0 rfl) ?_
  refine lv_iload_n hx hb dX1_choose_26 rfl (lv_at hl 3 rfl) ?_
  refine lv_bipush (v := nI 8) hx hb dX1_choose_27 (by decide +kernel) ?_
  refine vp_callSi (W.runV (As := [.int (nI p0), .int (nI 8)]) (rest := []) ⟨hx, hb, hml, hown, hts⟩ (m_out l dC dI a k fn ft gn gt gm (nI 0) o (nI p0) 8) (cwV 2 hts gX1_choose_X1_out rfl rfl rfl (by decide +kernel) ⟨Nat.le_of_ble_eq_true rfl, Nat.le_of_ble_eq_true rfl⟩) (nPreV hP hK (va_recv hK hP (ci := 1) (q0 := 3) rfl rfl)) rfl rfl hl.1 rfl (lv_room (Nat.le_of_ble_eq_true rfl)) dX1_choose_29 ⟨Nat.zero_le _, Nat.zero_le _⟩) (fun r_29_3 er_29_3 => ?_)
  rw [nO_in (by omega) (by decide)] at er_29_3
  subst er_29_3
  refine lv_if_ne (tgt := 46) hx hb dX1_choose_32 (by decide) (fun c => absurd c (by decide +kernel)) (fun _ => ?_)
  refine lv_aload_n hx hb dX1_choose_35 rfl (lv_at hl 0 rfl) ?_
  refine lv_iload hx hb dX1_choose_36 (lv_at hl 4 rfl) ?_
  refine lv_bipush (v := nI 8) hx hb dX1_choose_38 (by decide +kernel) ?_
  refine vp_callSi (W.runV (As := [.int (nI q0), .int (nI 8)]) (rest := []) ⟨hx, hb, hml, hown, hts⟩ (m_out l dC dI a k fn ft gn gt gm (nI 0) o (nI q0) 8) (cwV 2 hts gX1_choose_X1_out rfl rfl rfl (by decide +kernel) ⟨Nat.le_of_ble_eq_true rfl, Nat.le_of_ble_eq_true rfl⟩) (nPreV hP hK (va_recv hK hP (ci := 1) (q0 := 3) rfl rfl)) rfl rfl hl.1 rfl (lv_room (Nat.le_of_ble_eq_true rfl)) dX1_choose_40 ⟨Nat.zero_le _, Nat.zero_le _⟩) (fun r_40_4 er_40_4 => ?_)
  rw [nO_in (by omega) (by decide)] at er_40_4
  subst er_40_4
  refine lv_if_eq (tgt := 54) hx hb dX1_choose_43 (by decide) (fun _ => ?_) (fun c => absurd c (by decide +kernel))
  refine lv_iconst (v := nI 0) hx hb dX1_choose_54 (by decide +kernel) ?_
  refine lv_istore (lv' := [(5, .int (nI 0)), (0, .ref (a 3)), (1, .int (nI sl)), (2, .int (nI tr)), (3, .int (nI p0)), (4, .int (nI q0))]) hx hb dX1_choose_55 hl (by decide) rfl (fun ls hl => ?_)
  refine nc_loop 1024 (fun w H locs ls => va_P (dC, dI) vwCl (nW a k fn ft gn gt (nF gm 0 w (mvH gn tb tr p0 q0)) (nI 0) o) H ∧ va_S (nA0 a) s.heap H locs ∧ lv_has ls 6 [(5, .int (nI w)), (0, .ref (a 3)), (1, .int (nI sl)), (2, .int (nI tr)), (3, .int (nI p0)), (4, .int (nI q0))]) ⟨(by rw [nF_0]; exact hP), hS, (lv_sub hl [0, 1, 2, 3, 4, 5] rfl)⟩ ?_
  intro w H locs ls hw hI ih
  obtain ⟨hP, hS, hl⟩ := hI
  refine lv_iload hx hb dX1_choose_57 (lv_at hl 0 rfl) ?_
  refine lv_sipush (v := nI 1024) hx hb dX1_choose_59 (by decide +kernel) ?_
  refine lv_icmp_ge (tgt := 112) hx hb dX1_choose_62 (by decide) (fun c1 => ?_) (fun c1 => ?_)
  · obtain rfl : w = 1024 := nHi (by decide) hw c1
    refine lv_iconst (v := nI 0) hx hb dX1_choose_112 (by decide +kernel) ?_
    refine lv_istore (lv' := [(5, .int (nI 0)), (0, .ref (a 3)), (1, .int (nI sl)), (2, .int (nI tr)), (3, .int (nI p0)), (4, .int (nI q0))]) hx hb dX1_choose_113 hl (by decide) rfl (fun ls hl => ?_)
    refine nc_loop 1024 (fun w H locs ls => va_P (dC, dI) vwCl (nW a k fn ft (nF gn (1024 * sl) w (mvH gn tb tr p0 q0)) gt (nF gm 0 1024 (mvH gn tb tr p0 q0)) (nI 0) o) H ∧ va_S (nA0 a) s.heap H locs ∧ lv_has ls 6 [(5, .int (nI w)), (0, .ref (a 3)), (1, .int (nI sl)), (2, .int (nI tr)), (3, .int (nI p0)), (4, .int (nI q0))]) ⟨(by rw [nF_0]; exact hP), hS, (lv_sub hl [0, 1, 2, 3, 4, 5] rfl)⟩ ?_
    intro w H locs ls hw hI ih
    obtain ⟨hP, hS, hl⟩ := hI
    refine lv_iload hx hb dX1_choose_115 (lv_at hl 0 rfl) ?_
    refine lv_sipush (v := nI 1024) hx hb dX1_choose_117 (by decide +kernel) ?_
    refine lv_icmp_ge (tgt := 149) hx hb dX1_choose_120 (by decide) (fun c1 => ?_) (fun c1 => ?_)
    · obtain rfl : w = 1024 := nHi (by decide) hw c1
      exact W.vret hx hb hr (fun t ht hW => ⟨⟨(), rfl, trivial, by rw [ht]; exact hP, va_K.moved hW.alike hK⟩, hS.F ht⟩) hS.2.2 dX1_choose_149
    · have hlt : w < 1024 := nLo (by decide) hw c1
      refine lv_aload_n hx hb dX1_choose_123 rfl (lv_at hl 1 rfl) ?_
      refine va_get (D := (dC, dI)) (ci := 1) (v := .ref (a 4)) (C := RX1) (T := TX1) (N := 4) hx hb hts inX1_choose hown hK hP 3 rfl rfl 1 (by decide) (hts (.fieldLink RX1 7 "NumberCircuitsModel" "numbers" "[I") (by decide +kernel)) (fun _ h9 => h9) rfl dX1_choose_124 ?_
      refine lv_sipush (v := nI 1024) hx hb dX1_choose_127 (by decide +kernel) ?_
      refine lv_iload_n hx hb dX1_choose_130 rfl (lv_at hl 2 rfl) ?_
      refine lv_imul hx hb dX1_choose_131 ?_
      refine lv_iload hx hb dX1_choose_132 (lv_at hl 0 rfl) ?_
      refine lv_iadd hx hb dX1_choose_134 ?_
      refine lv_topi (fun x_135_5 ex_135_5 => ?_)
      obtain rfl : x_135_5 = nI (1024 * sl + w) := by rw [ex_135_5]; rw [pk_mul, nI_add]
      refine lv_aload_n hx hb dX1_choose_135 rfl (lv_at hl 1 rfl) ?_
      refine va_get (D := (dC, dI)) (ci := 1) (v := .ref (a 6)) (C := RX1) (T := TX1) (N := 4) hx hb hts inX1_choose hown hK hP 3 rfl rfl 3 (by decide) (hts (.fieldLink RX1 17 "NumberCircuitsModel" "made" "[I") (by decide +kernel)) (fun _ h9 => h9) rfl dX1_choose_136 ?_
      refine lv_iload hx hb dX1_choose_139 (lv_at hl 0 rfl) ?_
      refine va_iald (i := nI w) hx hb hK hP 6 4 rfl rfl (vp_in_nI (by omega) (by decide)) dX1_choose_141 ?_
      refine lv_topi (fun x_142_6 ex_142_6 => ?_)
      obtain rfl : x_142_6 = (mvH gn tb tr p0 q0) w := by rw [ex_142_6]; rw [nI_clamp (show w < 2 ^ 31 by omega)]; exact nF_in0 hlt
      refine va_iast (i := nI (1024 * sl + w)) (x := (mvH gn tb tr p0 q0) w) hx hb hK hP (nDA hinj) hS 4 2 rfl rfl (vp_in_nI (by omega) (by decide)) dX1_choose_142 (fun H locs hP _ hS => ?_)
      have e_142_7 : upd (nF gn (1024 * sl) w (mvH gn tb tr p0 q0)) (nI (1024 * sl + w)).toNatClampNeg ((mvH gn tb tr p0 q0) w) = nF gn (1024 * sl) (w + 1) (mvH gn tb tr p0 q0) := nF_up (by omega) rfl
      have hP : va_P (dC, dI) vwCl (nW a k fn ft (nF gn (1024 * sl) (w + 1) (mvH gn tb tr p0 q0)) gt (nF gm 0 1024 (mvH gn tb tr p0 q0)) (nI 0) o) H := by rw [← e_142_7]; exact hP
      refine lv_iinc (v := nI (w + 1)) (lv' := [(5, .int (nI (w + 1))), (0, .ref (a 3)), (1, .int (nI sl)), (2, .int (nI tr)), (3, .int (nI p0)), (4, .int (nI q0))]) hx hb dX1_choose_143 hl (k := 0) rfl (nI_1 w) (by decide) rfl (fun ls hl => ?_)
      refine lv_goto (tgt := 115) hx hb dX1_choose_146 (by decide) ?_
      exact ih hlt _ _ _ ⟨hP, hS, (lv_sub hl [0, 1, 2, 3, 4, 5] rfl)⟩
  · have hlt : w < 1024 := nLo (by decide) hw c1
    refine lv_aload_n hx hb dX1_choose_65 rfl (lv_at hl 1 rfl) ?_
    refine va_get (D := (dC, dI)) (ci := 1) (v := .ref (a 6)) (C := RX1) (T := TX1) (N := 4) hx hb hts inX1_choose hown hK hP 3 rfl rfl 3 (by decide) (hts (.fieldLink RX1 17 "NumberCircuitsModel" "made" "[I") (by decide +kernel)) (fun _ h9 => h9) rfl dX1_choose_66 ?_
    refine lv_iload hx hb dX1_choose_69 (lv_at hl 0 rfl) ?_
    refine lv_aload_n hx hb dX1_choose_71 rfl (lv_at hl 1 rfl) ?_
    refine va_get (D := (dC, dI)) (ci := 1) (v := .ref (a 4)) (C := RX1) (T := TX1) (N := 4) hx hb hts inX1_choose hown hK hP 3 rfl rfl 1 (by decide) (hts (.fieldLink RX1 7 "NumberCircuitsModel" "numbers" "[I") (by decide +kernel)) (fun _ h9 => h9) rfl dX1_choose_72 ?_
    refine lv_sipush (v := nI 1024) hx hb dX1_choose_75 (by decide +kernel) ?_
    refine lv_aload_n hx hb dX1_choose_78 rfl (lv_at hl 1 rfl) ?_
    refine va_get (D := (dC, dI)) (ci := 1) (v := .ref (a 5)) (C := RX1) (T := TX1) (N := 4) hx hb hts inX1_choose hown hK hP 3 rfl rfl 2 (by decide) (hts (.fieldLink RX1 13 "NumberCircuitsModel" "truths" "[Z") (by decide +kernel)) (fun _ h9 => h9) rfl dX1_choose_79 ?_
    refine lv_sipush (v := nI 1024) hx hb dX1_choose_82 (by decide +kernel) ?_
    refine lv_iload_n hx hb dX1_choose_85 rfl (lv_at hl 3 rfl) ?_
    refine lv_imul hx hb dX1_choose_86 ?_
    refine lv_iload hx hb dX1_choose_87 (lv_at hl 0 rfl) ?_
    refine lv_iadd hx hb dX1_choose_89 ?_
    refine lv_topi (fun x_90_5 ex_90_5 => ?_)
    obtain rfl : x_90_5 = nI (1024 * tr + w) := by rw [ex_90_5]; rw [pk_mul, nI_add]
    refine va_zald (i := nI (1024 * tr + w)) hx hb hK hP 5 3 rfl rfl (vp_in_nI (by omega) (by decide)) dX1_choose_90 ?_
    refine lv_topi (fun x_91_6 ex_91_6 => ?_)
    obtain rfl : x_91_6 = nb (tb tr w) := by rw [ex_91_6]; rw [nI_clamp (show 1024 * tr + w < 2 ^ 31 by omega)]; exact htb tr w htr hlt
    refine lv_if_eq (tgt := 98) hx hb dX1_choose_91 (by decide) (fun c2 => ?_) (fun c2 => ?_)
    · have hbt : tb tr w = false := nb_f c2
      refine lv_iload hx hb dX1_choose_98 (lv_at hl 5 rfl) ?_
      refine lv_imul hx hb dX1_choose_100 ?_
      refine lv_iload hx hb dX1_choose_101 (lv_at hl 0 rfl) ?_
      refine lv_iadd hx hb dX1_choose_103 ?_
      refine lv_topi (fun x_104_7 ex_104_7 => ?_)
      obtain rfl : x_104_7 = nI (1024 * q0 + w) := by rw [ex_104_7]; rw [pk_mul, nI_add]
      refine va_iald (i := nI (1024 * q0 + w)) hx hb hK hP 4 2 rfl rfl (vp_in_nI (by omega) (by decide)) dX1_choose_104 ?_
      refine lv_topi (fun x_105_8 ex_105_8 => ?_)
      obtain rfl : x_105_8 = gn (1024 * q0 + w) := by rw [ex_105_8]; rw [nI_clamp (show 1024 * q0 + w < 2 ^ 31 by omega)]
      refine va_iast (i := nI w) (x := gn (1024 * q0 + w)) hx hb hK hP (nDA hinj) hS 6 4 rfl rfl (vp_in_nI (by omega) (by decide)) dX1_choose_105 (fun H locs hP _ hS => ?_)
      have e_105_9 : upd (nF gm 0 w (mvH gn tb tr p0 q0)) (nI w).toNatClampNeg (gn (1024 * q0 + w)) = nF gm 0 (w + 1) (mvH gn tb tr p0 q0) := nF_up0 (by omega) (by unfold mvH; rw [hbt]; rfl)
      have hP : va_P (dC, dI) vwCl (nW a k fn ft gn gt (nF gm 0 (w + 1) (mvH gn tb tr p0 q0)) (nI 0) o) H := by rw [← e_105_9]; exact hP
      refine lv_iinc (v := nI (w + 1)) (lv' := [(5, .int (nI (w + 1))), (0, .ref (a 3)), (1, .int (nI sl)), (2, .int (nI tr)), (3, .int (nI p0)), (4, .int (nI q0))]) hx hb dX1_choose_106 hl (k := 0) rfl (nI_1 w) (by decide) rfl (fun ls hl => ?_)
      refine lv_goto (tgt := 57) hx hb dX1_choose_109 (by decide) ?_
      exact ih hlt _ _ _ ⟨hP, hS, (lv_sub hl [0, 1, 2, 3, 4, 5] rfl)⟩
    · have hbt : tb tr w = true := nb_t c2
      refine lv_iload_n hx hb dX1_choose_94 rfl (lv_at hl 4 rfl) ?_
      refine lv_goto (tgt := 100) hx hb dX1_choose_95 (by decide) ?_
      refine lv_imul hx hb dX1_choose_100 ?_
      refine lv_iload hx hb dX1_choose_101 (lv_at hl 0 rfl) ?_
      refine lv_iadd hx hb dX1_choose_103 ?_
      refine lv_topi (fun x_104_7 ex_104_7 => ?_)
      obtain rfl : x_104_7 = nI (1024 * p0 + w) := by rw [ex_104_7]; rw [pk_mul, nI_add]
      refine va_iald (i := nI (1024 * p0 + w)) hx hb hK hP 4 2 rfl rfl (vp_in_nI (by omega) (by decide)) dX1_choose_104 ?_
      refine lv_topi (fun x_105_8 ex_105_8 => ?_)
      obtain rfl : x_105_8 = gn (1024 * p0 + w) := by rw [ex_105_8]; rw [nI_clamp (show 1024 * p0 + w < 2 ^ 31 by omega)]
      refine va_iast (i := nI w) (x := gn (1024 * p0 + w)) hx hb hK hP (nDA hinj) hS 6 4 rfl rfl (vp_in_nI (by omega) (by decide)) dX1_choose_105 (fun H locs hP _ hS => ?_)
      have e_105_9 : upd (nF gm 0 w (mvH gn tb tr p0 q0)) (nI w).toNatClampNeg (gn (1024 * p0 + w)) = nF gm 0 (w + 1) (mvH gn tb tr p0 q0) := nF_up0 (by omega) (by unfold mvH; rw [hbt]; rfl)
      have hP : va_P (dC, dI) vwCl (nW a k fn ft gn gt (nF gm 0 (w + 1) (mvH gn tb tr p0 q0)) (nI 0) o) H := by rw [← e_105_9]; exact hP
      refine lv_iinc (v := nI (w + 1)) (lv' := [(5, .int (nI (w + 1))), (0, .ref (a 3)), (1, .int (nI sl)), (2, .int (nI tr)), (3, .int (nI p0)), (4, .int (nI q0))]) hx hb dX1_choose_106 hl (k := 0) rfl (nI_1 w) (by decide) rfl (fun ls hl => ?_)
      refine lv_goto (tgt := 57) hx hb dX1_choose_109 (by decide) ?_
      exact ih hlt _ _ _ ⟨hP, hS, (lv_sub hl [0, 1, 2, 3, 4, 5] rfl)⟩
set_option maxHeartbeats 4000000 in
set_option maxRecDepth 100000 in
theorem m_yes (l : Launch) (dC : Nat → ClassId) (dI : Nat → Nat → Nat) (a : Nat → Nat) (k : Nat → ClassId) (fn ft gn gt gm : Nat → Int32) (fl : Int32) (o : Nat → Int64) (tr : Nat) (q : Nat → Bool) (htr : tr < 8) (hq : ∀ w : Nat, w < 1024 → gt (1024 * tr + w) = nb (q w)) : Met l yX1_yes wsX1_yes ({ frames := 0, cells := 0, slots := 0, locals := 0 }) (va_Pc [.ref (a 3), .int (nI tr)] (nPw dC dI a k fn ft gn gt gm fl o)) (vp_Si (fun r => r = nI (nN q 1024))) 0 0 (fun _ => False) := by
  refine Met.ofW (cc := cX1_yes) (maxL := 4) (ret := (some .int)) (by decide) rfl ?_
  intro p e s m args below meth c s₁ B hml hv
  obtain ⟨rfl, hP, hK⟩ := hv
  have hx := B.exec
  have hb := B.bytes
  have hr := B.returns
  have hts := atoms_spec (ws := wsX1_yes) B.pre
  have hown : s.vm.findClass RX1 = some m.cls := findClass_of_methodNamed B.named
  have hlocks := B.notSynchronized
  have hl := lv_entry ([.ref (a 3), .int (nI tr)]) (n := 4) (Nat.le_of_ble_eq_true rfl)
  rw [lg_entry_eq]
  generalize (lg_sl ([.ref (a 3), .int (nI tr)]) ++ List.replicate (4 - (lg_sl ([.ref (a 3), .int (nI tr)])).length) Slot.unset).toArray = ls at hl ⊢
  have hl : lv_has ls 4 [(0, .ref (a 3)), (1, .int (nI tr))] := hl
  refine lv_iconst (v := nI 0) hx hb dX1_yes_0 (by decide +kernel) ?_
  refine lv_istore_n (lv' := [(2, .int (nI 0)), (0, .ref (a 3)), (1, .int (nI tr))]) hx hb dX1_yes_1 rfl hl (by decide) rfl (fun ls hl => ?_)
  have hl : lv_has ls 4 [(2, .int (nI (nN q 0))), (0, .ref (a 3)), (1, .int (nI tr))] := hl
  refine lv_iconst (v := nI 0) hx hb dX1_yes_2 (by decide +kernel) ?_
  refine lv_istore_n (lv' := [(3, .int (nI 0)), (2, .int (nI (nN q 0))), (0, .ref (a 3)), (1, .int (nI tr))]) hx hb dX1_yes_3 rfl hl (by decide) rfl (fun ls hl => ?_)
  refine nc_loop 1024 (fun w H locs ls => H = s.heap ∧ locs = [] ∧ lv_has ls 4 [(3, .int (nI w)), (2, .int (nI (nN q w))), (0, .ref (a 3)), (1, .int (nI tr))]) ⟨rfl, rfl, (lv_sub hl [0, 1, 2, 3] rfl)⟩ ?_
  intro w H locs ls hw hI ih
  obtain ⟨rfl, rfl, hl⟩ := hI
  refine lv_iload_n hx hb dX1_yes_4 rfl (lv_at hl 0 rfl) ?_
  refine lv_sipush (v := nI 1024) hx hb dX1_yes_5 (by decide +kernel) ?_
  refine lv_icmp_ge (tgt := 40) hx hb dX1_yes_8 (by decide) (fun c1 => ?_) (fun c1 => ?_)
  · obtain rfl : w = 1024 := nHi (by decide) hw c1
    refine lv_iload_n hx hb dX1_yes_40 rfl (lv_at hl 1 rfl) ?_
    exact W.iret hx hb hr (fun t ht hW => ⟨_, rfl, rfl, ht⟩) (fun _ h => absurd h List.not_mem_nil) dX1_yes_41
  · have hlt : w < 1024 := nLo (by decide) hw c1
    refine lv_iload_n hx hb dX1_yes_11 rfl (lv_at hl 1 rfl) ?_
    refine lv_aload_n hx hb dX1_yes_12 rfl (lv_at hl 2 rfl) ?_
    refine va_get (D := (dC, dI)) (ci := 1) (v := .ref (a 5)) (C := RX1) (T := TX1) (N := 4) hx hb hts inX1_yes hown hK hP 3 rfl rfl 2 (by decide) (hts (.fieldLink RX1 13 "NumberCircuitsModel" "truths" "[Z") (by decide +kernel)) (fun _ h9 => h9) rfl dX1_yes_13 ?_
    refine lv_sipush (v := nI 1024) hx hb dX1_yes_16 (by decide +kernel) ?_
    refine lv_iload_n hx hb dX1_yes_19 rfl (lv_at hl 3 rfl) ?_
    refine lv_imul hx hb dX1_yes_20 ?_
    refine lv_iload_n hx hb dX1_yes_21 rfl (lv_at hl 0 rfl) ?_
    refine lv_iadd hx hb dX1_yes_22 ?_
    refine lv_topi (fun x_23_1 ex_23_1 => ?_)
    obtain rfl : x_23_1 = nI (1024 * tr + w) := by rw [ex_23_1]; rw [pk_mul, nI_add]
    refine va_zald (i := nI (1024 * tr + w)) hx hb hK hP 5 3 rfl rfl (vp_in_nI (by omega) (by decide)) dX1_yes_23 ?_
    refine lv_topi (fun x_24_2 ex_24_2 => ?_)
    obtain rfl : x_24_2 = nb (q w) := by rw [ex_24_2]; rw [nI_clamp (show 1024 * tr + w < 2 ^ 31 by omega)]; exact hq w hlt
    refine lv_if_eq (tgt := 31) hx hb dX1_yes_24 (by decide) (fun c2 => ?_) (fun c2 => ?_)
    · refine lv_iconst (v := nI 0) hx hb dX1_yes_31 (by decide +kernel) ?_
      refine lv_iadd hx hb dX1_yes_32 ?_
      refine lv_topi (fun x_33_3 ex_33_3 => ?_)
      obtain rfl : x_33_3 = nI (nN q (w + 1)) := by rw [ex_33_3]; rw [← nN_s, show q w = false from nb_f c2]; rfl
      refine lv_istore_n (lv' := [(2, .int (nI (nN q (w + 1)))), (3, .int (nI w)), (0, .ref (a 3)), (1, .int (nI tr))]) hx hb dX1_yes_33 rfl hl (by decide) rfl (fun ls hl => ?_)
      refine lv_iinc (v := nI (w + 1)) (lv' := [(3, .int (nI (w + 1))), (2, .int (nI (nN q (w + 1)))), (0, .ref (a 3)), (1, .int (nI tr))]) hx hb dX1_yes_34 hl (k := 1) rfl (nI_1 w) (by decide) rfl (fun ls hl => ?_)
      refine lv_goto (tgt := 4) hx hb dX1_yes_37 (by decide) ?_
      exact ih hlt _ _ _ ⟨rfl, rfl, (lv_sub hl [0, 1, 2, 3] rfl)⟩
    · refine lv_iconst (v := nI 1) hx hb dX1_yes_27 (by decide +kernel) ?_
      refine lv_goto (tgt := 32) hx hb dX1_yes_28 (by decide) ?_
      refine lv_iadd hx hb dX1_yes_32 ?_
      refine lv_topi (fun x_33_3 ex_33_3 => ?_)
      obtain rfl : x_33_3 = nI (nN q (w + 1)) := by rw [ex_33_3]; rw [← nN_s, show q w = true from nb_t c2]; rfl
      refine lv_istore_n (lv' := [(2, .int (nI (nN q (w + 1)))), (3, .int (nI w)), (0, .ref (a 3)), (1, .int (nI tr))]) hx hb dX1_yes_33 rfl hl (by decide) rfl (fun ls hl => ?_)
      refine lv_iinc (v := nI (w + 1)) (lv' := [(3, .int (nI (w + 1))), (2, .int (nI (nN q (w + 1)))), (0, .ref (a 3)), (1, .int (nI tr))]) hx hb dX1_yes_34 hl (k := 1) rfl (nI_1 w) (by decide) rfl (fun ls hl => ?_)
      refine lv_goto (tgt := 4) hx hb dX1_yes_37 (by decide) ?_
      exact ih hlt _ _ _ ⟨rfl, rfl, (lv_sub hl [0, 1, 2, 3] rfl)⟩
