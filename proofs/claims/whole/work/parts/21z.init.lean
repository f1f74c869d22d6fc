set_option maxHeartbeats 4000000 in
set_option maxRecDepth 100000 in
theorem c_X0init (l : Launch) (dC : Nat → ClassId) (dI : Nat → Nat → Nat) (h0 sz : Nat) : Met l yX0_init wsX0_init ({ frames := 1, cells := 2, slots := 9216, locals := 16 }) (va_Pc [.ref h0] (fun U => U.heap.size = sz ∧ va_P (dC, dI) vwCl [(h0, .inr (0, [.null, .null]))] U.heap ∧ va_K (dC, dI) vwCl [] U ∧ va_D (fun _ => True) [(h0, .inr (0, [.null, .null]))])) (va_Qv (fun _ : Unit => True) (fun _ t => ∃ (q0 q1 : Nat) (c0 c1 : ClassId), va_P (dC, dI) vwCl [(h0, .inr (0, [.ref q0, .ref q1])), (q0, .inl (c0, 8192, .inl (fun _ => 0))), (q1, .inl (c1, 1024, .inl (fun _ => 0)))] t.heap ∧ va_K (dC, dI) vwCl [(c0, .short), (c1, .int)] t ∧ va_D (va_A [(h0, .inr (0, [.null, .null]))] sz) [(h0, .inr (0, [.ref q0, .ref q1])), (q0, .inl (c0, 8192, .inl (fun _ => 0))), (q1, .inl (c1, 1024, .inl (fun _ => 0)))]) (va_A [(h0, .inr (0, [.null, .null]))] sz)) 2 9216 (va_A [(h0, .inr (0, [.null, .null]))] sz) := by
  refine Met.ofW (cc := cX0_init) (maxL := 1) (ret := none) (by decide) rfl ?_
  intro p e s m args below meth c s₁ B hml hv
  obtain ⟨rfl, hsz, hP, hK, hD0⟩ := hv
  have hx := B.exec
  have hb := B.bytes
  have hr := B.returns
  have hts := atoms_spec (ws := wsX0_init) B.pre
  have hown : s.vm.findClass RX0 = some m.cls := findClass_of_methodNamed B.named
  have hlocks := B.notSynchronized
  have hin : meth.name = "<init>" := (name_of_methodNamed B.named B.method).1
  subst hsz
  have hD := hD0.self (sz := s.heap.size)
  generalize hAe : va_A [(h0, .inr (0, [.null, .null]))] s.heap.size = A at hD ⊢
  have hA : ∀ q : Nat, s.heap.size ≤ q → A q := fun q h => by rw [← hAe]; exact Or.inr h
  have hS : va_S A s.heap s.heap [] := va_S.rf
  have hl := lv_entry ([.ref h0]) (n := 1) (Nat.le_of_ble_eq_true rfl)
  rw [lg_entry_eq]
  generalize (lg_sl ([.ref h0]) ++ List.replicate (1 - (lg_sl ([.ref h0])).length) Slot.unset).toArray = ls at hl ⊢
  have hl : lv_has ls 1 [(0, .ref h0)] := hl
  refine lv_aload_n hx hb dX0_init_0 rfl (lv_at hl 0 rfl) ?_
  refine W.objInit hx hb hown (hts (.methodLink RX0 1 objectInit) (by decide +kernel)) (hts (.instanceMethod objectInit) (by decide +kernel)) (hts _ (List.mem_cons_of_mem _ (List.mem_append_left _ (List.mem_of_getElem? (i := 2) rfl)))) rfl (by rw [hml]; exact hl.1) rfl dX0_init_1 (Nat.le_of_ble_eq_true rfl) (Nat.le_of_ble_eq_true rfl) ?_
  refine W.eq (g2 := F0 m 4 ls []) rfl ?_
  refine lv_aload_n hx hb dX0_init_4 rfl (lv_at hl 0 rfl) ?_
  refine lv_sipush (v := nI 8192) hx hb dX0_init_5 (by decide +kernel) ?_
  refine va_newa (atype := .short) (a0 := (8192, .inl (fun _ => 0))) (ty := .short) (n := nI 8192) (N' := 8192) hx hb (hts (.arrayClass .short) (by decide +kernel)) rfl hK hP hD hS hA (fun _ => rfl) (nI_pos (by decide)) (nI_clamp (by decide)) (by decide) (Nat.le_of_ble_eq_true rfl) (Nat.le_of_ble_eq_true rfl) dX0_init_8 (fun q0 c0 H hK hP hD hS => ?_)
  refine W.widen (k := 1) (n := 8192) (Nat.le_of_ble_eq_true rfl) (Nat.le_of_ble_eq_true rfl) ?_
  have hP : va_P (dC, dI) vwCl [(h0, .inr (0, [.null, .null])), (q0, .inl (c0, 8192, .inl (fun _ => 0)))] H := hP
  have hD : va_D A [(h0, .inr (0, [.null, .null])), (q0, .inl (c0, 8192, .inl (fun _ => 0)))] := hD
  have hK : va_K (dC, dI) vwCl [(c0, .short)] s := hK
  refine va_putF (D := (dC, dI)) (ci := 0) (v := .ref q0) (ty := .array .short) (C := RX0) (T := TX0) (N := 2) hx hb hts (by decide +kernel) tyX0 tyX0_ok nmX0 hown hK hP hD hS 0 rfl rfl 0 (by decide) (hts (.fieldLink RX0 9 "NumberCircuits" "numbers" "[S") (by decide +kernel)) (fun _ h9 => h9) rfl hin rfl (by decide +kernel) rfl rfl (Nat.le_of_ble_eq_true rfl) dX0_init_10 (fun H locs hP hD hS => ?_)
  have hP : va_P (dC, dI) vwCl [(h0, .inr (0, [.ref q0, .null])), (q0, .inl (c0, 8192, .inl (fun _ => 0)))] H := hP
  have hD : va_D A [(h0, .inr (0, [.ref q0, .null])), (q0, .inl (c0, 8192, .inl (fun _ => 0)))] := hD
  refine lv_aload_n hx hb dX0_init_13 rfl (lv_at hl 0 rfl) ?_
  refine lv_sipush (v := nI 1024) hx hb dX0_init_14 (by decide +kernel) ?_
  refine va_newa (atype := .int) (a0 := (1024, .inl (fun _ => 0))) (ty := .int) (n := nI 1024) (N' := 1024) hx hb (hts (.arrayClass .int) (by decide +kernel)) rfl hK hP hD hS hA (fun _ => rfl) (nI_pos (by decide)) (nI_clamp (by decide)) (by decide) (Nat.le_of_ble_eq_true rfl) (Nat.le_of_ble_eq_true rfl) dX0_init_17 (fun q1 c1 H hK hP hD hS => ?_)
  refine W.widen (k := 2) (n := 9216) (Nat.le_of_ble_eq_true rfl) (Nat.le_of_ble_eq_true rfl) ?_
  have hP : va_P (dC, dI) vwCl [(h0, .inr (0, [.ref q0, .null])), (q0, .inl (c0, 8192, .inl (fun _ => 0))), (q1, .inl (c1, 1024, .inl (fun _ => 0)))] H := hP
  have hD : va_D A [(h0, .inr (0, [.ref q0, .null])), (q0, .inl (c0, 8192, .inl (fun _ => 0))), (q1, .inl (c1, 1024, .inl (fun _ => 0)))] := hD
  have hK : va_K (dC, dI) vwCl [(c0, .short), (c1, .int)] s := hK
  refine va_putF (D := (dC, dI)) (ci := 0) (v := .ref q1) (ty := .array .int) (C := RX0) (T := TX0) (N := 2) hx hb hts (by decide +kernel) tyX0 tyX0_ok nmX0 hown hK hP hD hS 0 rfl rfl 1 (by decide) (hts (.fieldLink RX0 13 "NumberCircuits" "truths" "[I") (by decide +kernel)) (fun _ h9 => h9) rfl hin rfl (by decide +kernel) rfl rfl (Nat.le_of_ble_eq_true rfl) dX0_init_19 (fun H locs hP hD hS => ?_)
  have hP : va_P (dC, dI) vwCl [(h0, .inr (0, [.ref q0, .ref q1])), (q0, .inl (c0, 8192, .inl (fun _ => 0))), (q1, .inl (c1, 1024, .inl (fun _ => 0)))] H := hP
  have hD : va_D A [(h0, .inr (0, [.ref q0, .ref q1])), (q0, .inl (c0, 8192, .inl (fun _ => 0))), (q1, .inl (c1, 1024, .inl (fun _ => 0)))] := hD
  exact W.vret hx hb hr (fun t ht hW => ⟨⟨(), rfl, trivial, q0, q1, c0, c1, by rw [ht]; exact hP, va_K.moved hW.alike hK, hD⟩, hS.F ht⟩) hS.2.2 dX0_init_22
set_option maxHeartbeats 4000000 in
set_option maxRecDepth 100000 in
theorem c_X1init (l : Launch) (dC : Nat → ClassId) (dI : Nat → Nat → Nat) (h0 sz : Nat) : Met l yX1_init wsX1_init ({ frames := 1, cells := 3, slots := 17408, locals := 16 }) (va_Pc [.ref h0] (fun U => U.heap.size = sz ∧ va_P (dC, dI) vwCl [(h0, .inr (1, [.int 0, .null, .null, .null]))] U.heap ∧ va_K (dC, dI) vwCl [] U ∧ va_D (fun _ => True) [(h0, .inr (1, [.int 0, .null, .null, .null]))])) (va_Qv (fun _ : Unit => True) (fun _ t => ∃ (q0 q1 q2 : Nat) (c0 c1 c2 : ClassId), va_P (dC, dI) vwCl [(h0, .inr (1, [.int 0, .ref q0, .ref q1, .ref q2])), (q0, .inl (c0, 8192, .inl (fun _ => 0))), (q1, .inl (c1, 8192, .inl (fun _ => 0))), (q2, .inl (c2, 1024, .inl (fun _ => 0)))] t.heap ∧ va_K (dC, dI) vwCl [(c0, .int), (c1, .boolean), (c2, .int)] t ∧ va_D (va_A [(h0, .inr (1, [.int 0, .null, .null, .null]))] sz) [(h0, .inr (1, [.int 0, .ref q0, .ref q1, .ref q2])), (q0, .inl (c0, 8192, .inl (fun _ => 0))), (q1, .inl (c1, 8192, .inl (fun _ => 0))), (q2, .inl (c2, 1024, .inl (fun _ => 0)))]) (va_A [(h0, .inr (1, [.int 0, .null, .null, .null]))] sz)) 3 17408 (va_A [(h0, .inr (1, [.int 0, .null, .null, .null]))] sz) := by
  refine Met.ofW (cc := cX1_init) (maxL := 1) (ret := none) (by decide) rfl ?_
  intro p e s m args below meth c s₁ B hml hv
  obtain ⟨rfl, hsz, hP, hK, hD0⟩ := hv
  have hx := B.exec
  have hb := B.bytes
  have hr := B.returns
  have hts := atoms_spec (ws := wsX1_init) B.pre
  have hown : s.vm.findClass RX1 = some m.cls := findClass_of_methodNamed B.named
  have hlocks := B.notSynchronized
  have hin : meth.name = "<init>" := (name_of_methodNamed B.named B.method).1
  subst hsz
  have hD := hD0.self (sz := s.heap.size)
  generalize hAe : va_A [(h0, .inr (1, [.int 0, .null, .null, .null]))] s.heap.size = A at hD ⊢
  have hA : ∀ q : Nat, s.heap.size ≤ q → A q := fun q h => by rw [← hAe]; exact Or.inr h
  have hS : va_S A s.heap s.heap [] := va_S.rf
  have hl := lv_entry ([.ref h0]) (n := 1) (Nat.le_of_ble_eq_true rfl)
  rw [lg_entry_eq]
  generalize (lg_sl ([.ref h0]) ++ List.replicate (1 - (lg_sl ([.ref h0])).length) Slot.unset).toArray = ls at hl ⊢
  have hl : lv_has ls 1 [(0, .ref h0)] := hl
  refine lv_aload_n hx hb dX1_init_0 rfl (lv_at hl 0 rfl) ?_
  refine W.objInit hx hb hown (hts (.methodLink RX1 1 objectInit) (by decide +kernel)) (hts (.instanceMethod objectInit) (by decide +kernel)) (hts _ (List.mem_cons_of_mem _ (List.mem_append_left _ (List.mem_of_getElem? (i := 2) rfl)))) rfl (by rw [hml]; exact hl.1) rfl dX1_init_1 (Nat.le_of_ble_eq_true rfl) (Nat.le_of_ble_eq_true rfl) ?_
  refine W.eq (g2 := F0 m 4 ls []) rfl ?_
  refine lv_aload_n hx hb dX1_init_4 rfl (lv_at hl 0 rfl) ?_
  refine lv_sipush (v := nI 8192) hx hb dX1_init_5 (by decide +kernel) ?_
  refine va_newa (atype := .int) (a0 := (8192, .inl (fun _ => 0))) (ty := .int) (n := nI 8192) (N' := 8192) hx hb (hts (.arrayClass .int) (by decide +kernel)) rfl hK hP hD hS hA (fun _ => rfl) (nI_pos (by decide)) (nI_clamp (by decide)) (by decide) (Nat.le_of_ble_eq_true rfl) (Nat.le_of_ble_eq_true rfl) dX1_init_8 (fun q0 c0 H hK hP hD hS => ?_)
  refine W.widen (k := 1) (n := 8192) (Nat.le_of_ble_eq_true rfl) (Nat.le_of_ble_eq_true rfl) ?_
  have hP : va_P (dC, dI) vwCl [(h0, .inr (1, [.int 0, .null, .null, .null])), (q0, .inl (c0, 8192, .inl (fun _ => 0)))] H := hP
  have hD : va_D A [(h0, .inr (1, [.int 0, .null, .null, .null])), (q0, .inl (c0, 8192, .inl (fun _ => 0)))] := hD
  have hK : va_K (dC, dI) vwCl [(c0, .int)] s := hK
  refine va_putF (D := (dC, dI)) (ci := 1) (v := .ref q0) (ty := .array .int) (C := RX1) (T := TX1) (N := 4) hx hb hts (by decide +kernel) tyX1 tyX1_ok nmX1 hown hK hP hD hS 0 rfl rfl 1 (by decide) (hts (.fieldLink RX1 7 "NumberCircuitsModel" "numbers" "[I") (by decide +kernel)) (fun _ h9 => h9) rfl hin rfl (by decide +kernel) rfl rfl (Nat.le_of_ble_eq_true rfl) dX1_init_10 (fun H locs hP hD hS => ?_)
  have hP : va_P (dC, dI) vwCl [(h0, .inr (1, [.int 0, .ref q0, .null, .null])), (q0, .inl (c0, 8192, .inl (fun _ => 0)))] H := hP
  have hD : va_D A [(h0, .inr (1, [.int 0, .ref q0, .null, .null])), (q0, .inl (c0, 8192, .inl (fun _ => 0)))] := hD
  refine lv_aload_n hx hb dX1_init_13 rfl (lv_at hl 0 rfl) ?_
  refine lv_sipush (v := nI 8192) hx hb dX1_init_14 (by decide +kernel) ?_
  refine va_newa (atype := .boolean) (a0 := (8192, .inl (fun _ => 0))) (ty := .boolean) (n := nI 8192) (N' := 8192) hx hb (hts (.arrayClass .boolean) (by decide +kernel)) rfl hK hP hD hS hA (fun _ => rfl) (nI_pos (by decide)) (nI_clamp (by decide)) (by decide) (Nat.le_of_ble_eq_true rfl) (Nat.le_of_ble_eq_true rfl) dX1_init_17 (fun q1 c1 H hK hP hD hS => ?_)
  refine W.widen (k := 2) (n := 16384) (Nat.le_of_ble_eq_true rfl) (Nat.le_of_ble_eq_true rfl) ?_
  have hP : va_P (dC, dI) vwCl [(h0, .inr (1, [.int 0, .ref q0, .null, .null])), (q0, .inl (c0, 8192, .inl (fun _ => 0))), (q1, .inl (c1, 8192, .inl (fun _ => 0)))] H := hP
  have hD : va_D A [(h0, .inr (1, [.int 0, .ref q0, .null, .null])), (q0, .inl (c0, 8192, .inl (fun _ => 0))), (q1, .inl (c1, 8192, .inl (fun _ => 0)))] := hD
  have hK : va_K (dC, dI) vwCl [(c0, .int), (c1, .boolean)] s := hK
  refine va_putF (D := (dC, dI)) (ci := 1) (v := .ref q1) (ty := .array .boolean) (C := RX1) (T := TX1) (N := 4) hx hb hts (by decide +kernel) tyX1 tyX1_ok nmX1 hown hK hP hD hS 0 rfl rfl 2 (by decide) (hts (.fieldLink RX1 13 "NumberCircuitsModel" "truths" "[Z") (by decide +kernel)) (fun _ h9 => h9) rfl hin rfl (by decide +kernel) rfl rfl (Nat.le_of_ble_eq_true rfl) dX1_init_19 (fun H locs hP hD hS => ?_)
  have hP : va_P (dC, dI) vwCl [(h0, .inr (1, [.int 0, .ref q0, .ref q1, .null])), (q0, .inl (c0, 8192, .inl (fun _ => 0))), (q1, .inl (c1, 8192, .inl (fun _ => 0)))] H := hP
  have hD : va_D A [(h0, .inr (1, [.int 0, .ref q0, .ref q1, .null])), (q0, .inl (c0, 8192, .inl (fun _ => 0))), (q1, .inl (c1, 8192, .inl (fun _ => 0)))] := hD
  refine lv_aload_n hx hb dX1_init_22 rfl (lv_at hl 0 rfl) ?_
  refine lv_sipush (v := nI 1024) hx hb dX1_init_23 (by decide +kernel) ?_
  refine va_newa (atype := .int) (a0 := (1024, .inl (fun _ => 0))) (ty := .int) (n := nI 1024) (N' := 1024) hx hb (hts (.arrayClass .int) (by decide +kernel)) rfl hK hP hD hS hA (fun _ => rfl) (nI_pos (by decide)) (nI_clamp (by decide)) (by decide) (Nat.le_of_ble_eq_true rfl) (Nat.le_of_ble_eq_true rfl) dX1_init_26 (fun q2 c2 H hK hP hD hS => ?_)
  refine W.widen (k := 3) (n := 17408) (Nat.le_of_ble_eq_true rfl) (Nat.le_of_ble_eq_true rfl) ?_
  have hP : va_P (dC, dI) vwCl [(h0, .inr (1, [.int 0, .ref q0, .ref q1, .null])), (q0, .inl (c0, 8192, .inl (fun _ => 0))), (q1, .inl (c1, 8192, .inl (fun _ => 0))), (q2, .inl (c2, 1024, .inl (fun _ => 0)))] H := hP
  have hD : va_D A [(h0, .inr (1, [.int 0, .ref q0, .ref q1, .null])), (q0, .inl (c0, 8192, .inl (fun _ => 0))), (q1, .inl (c1, 8192, .inl (fun _ => 0))), (q2, .inl (c2, 1024, .inl (fun _ => 0)))] := hD
  have hK : va_K (dC, dI) vwCl [(c0, .int), (c1, .boolean), (c2, .int)] s := hK
  refine va_putF (D := (dC, dI)) (ci := 1) (v := .ref q2) (ty := .array .int) (C := RX1) (T := TX1) (N := 4) hx hb hts (by decide +kernel) tyX1 tyX1_ok nmX1 hown hK hP hD hS 0 rfl rfl 3 (by decide) (hts (.fieldLink RX1 17 "NumberCircuitsModel" "made" "[I") (by decide +kernel)) (fun _ h9 => h9) rfl hin rfl (by decide +kernel) rfl rfl (Nat.le_of_ble_eq_true rfl) dX1_init_28 (fun H locs hP hD hS => ?_)
  have hP : va_P (dC, dI) vwCl [(h0, .inr (1, [.int 0, .ref q0, .ref q1, .ref q2])), (q0, .inl (c0, 8192, .inl (fun _ => 0))), (q1, .inl (c1, 8192, .inl (fun _ => 0))), (q2, .inl (c2, 1024, .inl (fun _ => 0)))] H := hP
  have hD : va_D A [(h0, .inr (1, [.int 0, .ref q0, .ref q1, .ref q2])), (q0, .inl (c0, 8192, .inl (fun _ => 0))), (q1, .inl (c1, 8192, .inl (fun _ => 0))), (q2, .inl (c2, 1024, .inl (fun _ => 0)))] := hD
  exact W.vret hx hb hr (fun t ht hW => ⟨⟨(), rfl, trivial, q0, q1, q2, c0, c1, c2, by rw [ht]; exact hP, va_K.moved hW.alike hK, hD⟩, hS.F ht⟩) hS.2.2 dX1_init_31
