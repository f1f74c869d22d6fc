theorem nU3 {x2 x3 : Int32} {j2 : Nat} (hj : j2 < 11) (e2 : x2 = nI j2) (h : nO x3 (10 - j2 + 1) = false) : nO x3 11 = false ∧ decide (x2 + x3 ≤ nI 10) = true := by
  obtain ⟨j3, h3, rfl⟩ := nO_of h (by omega)
  subst e2
  exact ⟨nO_in (by omega) (by decide), by rw [nI_add]; exact decide_eq_true (nI_le (by omega) (by decide))⟩
set_option maxHeartbeats 4000000 in
set_option maxRecDepth 100000 in
theorem x_constant (l : Launch) (hst : l.stackTraces = false) (sz sa sb b0 : Nat) (x1 x2 : Int32) (hbad : (nO x1 8) = true) : vx_Met l yX0_constant wsX0_constant ({ frames := 7, cells := 1, slots := 6, locals := 110 }) (va_Pc [.ref b0, .int x1, .int x2] (nPz sz sa sb)) (nQ0v sz) (nXC "java/lang/IllegalArgumentException" sz) 1 6 (fun q => sz ≤ q) := by
  refine vx_ofW (cc := cX0_constant) (maxL := 4) (ret := none) (by decide) rfl ?_
  intro p e s m args below meth c s₁ B hml htab hv
  obtain ⟨rfl, hz⟩ := hv
  have hx := B.exec
  have hb := B.bytes
  have hr := B.returns
  have hts := atoms_spec (ws := wsX0_constant) B.pre
  have hown : s.vm.findClass RX0 = some m.cls := findClass_of_methodNamed B.named
  have hlocks := B.notSynchronized
  have hl := lv_entry ([.ref b0, .int x1, .int x2]) (n := 4) (Nat.le_of_ble_eq_true rfl)
  rw [lg_entry_eq]
  generalize (lg_sl ([.ref b0, .int x1, .int x2]) ++ List.replicate (4 - (lg_sl ([.ref b0, .int x1, .int x2])).length) Slot.unset).toArray = ls at hl ⊢
  have hl : lv_has ls 4 [(0, .ref b0), (1, .int x1), (2, .int x2)] := hl
  have hS : va_S (fun q => sz ≤ q) s.heap s.heap [] := va_S.rf
  refine lv_iload_n hx hb dX0_constant_0 rfl (lv_at hl 1 rfl) ?_
  refine lv_bipush (v := nI 7) hx hb dX0_constant_1 (by decide +kernel) ?_
  cases h0 : nO x1 8
  · refine va_csv (W.runS (As := [.int x1, .int (nI 7)]) (rest := []) ⟨hx, hb, hml, hown, hts⟩ (c_needUpToF l x1 7 (by omega) h0) (va_cwS 2 hts gX0_constant_X0_needUpTo rfl rfl rfl (by decide +kernel) ⟨Nat.le_of_ble_eq_true rfl, Nat.le_of_ble_eq_true rfl⟩) ⟨fun _ _ _ _ q => q, fun U hU hW => ⟨rfl, trivial⟩⟩ rfl rfl hl.1 rfl (lv_room (Nat.le_of_ble_eq_true rfl)) dX0_constant_3 ⟨Nat.zero_le _, Nat.zero_le _⟩) (fun _ => ?_)
    exact absurd hbad (by rw [h0]; decide)
  · refine vx_callv (vx_runS (As := [.int x1, .int (nI 7)]) (rest := []) ⟨hx, hb, hml, hown, hts⟩ (x_needUpTo l hst sz sa sb x1 7 (by omega) h0) (va_cwS 2 hts gX0_constant_X0_needUpTo rfl rfl rfl (by decide +kernel) ⟨Nat.le_of_ble_eq_true rfl, Nat.le_of_ble_eq_true rfl⟩) (nPz_pre hz) rfl rfl hl.1 rfl (lv_room (Nat.le_of_ble_eq_true rfl)) dX0_constant_3 ⟨Nat.le_of_ble_eq_true rfl, Nat.le_of_ble_eq_true rfl⟩) hS (fun _ _ h => h) (fun _ h => h) (fun _ _ h => h) (fun E ce q9 u t H1 locs1 ht hvm _ hE _ _ hS hce hcv hcl => ?_) (fun _ _ _ _ _ _ h _ _ _ _ => h.elim)
    exact vx_out (fun z hz => (htab z hz).elim) hlocks hce hcv hcl (fun t2 ht2 _ => ⟨(), trivial, hE, hS.F ht2⟩) hS.2.2 (Nat.le_of_ble_eq_true rfl) (Nat.le_of_ble_eq_true rfl)
set_option maxHeartbeats 4000000 in
set_option maxRecDepth 100000 in
theorem x_unknown (l : Launch) (hst : l.stackTraces = false) (sz sa sb b0 : Nat) (x1 x2 x3 x4 : Int32) (hbad : (nO x1 8 || nO x2 11 || nO x3 11 || !decide (x2 + x3 ≤ nI 10)) = true) : vx_Met l yX0_unknown wsX0_unknown ({ frames := 7, cells := 1, slots := 6, locals := 110 }) (va_Pc [.ref b0, .int x1, .int x2, .int x3, .int x4] (nPz sz sa sb)) (nQ0v sz) (nXC "java/lang/IllegalArgumentException" sz) 1 6 (fun q => sz ≤ q) := by
  refine vx_ofW (cc := cX0_unknown) (maxL := 7) (ret := none) (by decide) rfl ?_
  intro p e s m args below meth c s₁ B hml htab hv
  obtain ⟨rfl, hz⟩ := hv
  have hx := B.exec
  have hb := B.bytes
  have hr := B.returns
  have hts := atoms_spec (ws := wsX0_unknown) B.pre
  have hown : s.vm.findClass RX0 = some m.cls := findClass_of_methodNamed B.named
  have hlocks := B.notSynchronized
  have hl := lv_entry ([.ref b0, .int x1, .int x2, .int x3, .int x4]) (n := 7) (Nat.le_of_ble_eq_true rfl)
  rw [lg_entry_eq]
  generalize (lg_sl ([.ref b0, .int x1, .int x2, .int x3, .int x4]) ++ List.replicate (7 - (lg_sl ([.ref b0, .int x1, .int x2, .int x3, .int x4])).length) Slot.unset).toArray = ls at hl ⊢
  have hl : lv_has ls 7 [(0, .ref b0), (1, .int x1), (2, .int x2), (3, .int x3), (4, .int x4)] := hl
  have hS : va_S (fun q => sz ≤ q) s.heap s.heap [] := va_S.rf
  refine lv_iload_n hx hb dX0_unknown_0 rfl (lv_at hl 1 rfl) ?_
  refine lv_bipush (v := nI 7) hx hb dX0_unknown_1 (by decide +kernel) ?_
  cases h0 : nO x1 8
  · refine va_csv (W.runS (As := [.int x1, .int (nI 7)]) (rest := []) ⟨hx, hb, hml, hown, hts⟩ (c_needUpToF l x1 7 (by omega) h0) (va_cwS 2 hts gX0_unknown_X0_needUpTo rfl rfl rfl (by decide +kernel) ⟨Nat.le_of_ble_eq_true rfl, Nat.le_of_ble_eq_true rfl⟩) ⟨fun _ _ _ _ q => q, fun U hU hW => ⟨rfl, trivial⟩⟩ rfl rfl hl.1 rfl (lv_room (Nat.le_of_ble_eq_true rfl)) dX0_unknown_3 ⟨Nat.zero_le _, Nat.zero_le _⟩) (fun _ => ?_)
    refine lv_iload_n hx hb dX0_unknown_6 rfl (lv_at hl 2 rfl) ?_
    refine lv_bipush (v := nI 10) hx hb dX0_unknown_7 (by decide +kernel) ?_
    cases h1 : nO x2 11
    · refine va_csv (W.runS (As := [.int x2, .int (nI 10)]) (rest := []) ⟨hx, hb, hml, hown, hts⟩ (c_needUpToF l x2 10 (by omega) h1) (va_cwS 2 hts gX0_unknown_X0_needUpTo rfl rfl rfl (by decide +kernel) ⟨Nat.le_of_ble_eq_true rfl, Nat.le_of_ble_eq_true rfl⟩) ⟨fun _ _ _ _ q => q, fun U hU hW => ⟨rfl, trivial⟩⟩ rfl rfl hl.1 rfl (lv_room (Nat.le_of_ble_eq_true rfl)) dX0_unknown_9 ⟨Nat.zero_le _, Nat.zero_le _⟩) (fun _ => ?_)
      refine lv_iload_n hx hb dX0_unknown_12 rfl (lv_at hl 3 rfl) ?_
      refine lv_bipush (v := nI 10) hx hb dX0_unknown_13 (by decide +kernel) ?_
      refine lv_iload_n hx hb dX0_unknown_15 rfl (lv_at hl 2 rfl) ?_
      refine lv_isub hx hb dX0_unknown_16 ?_
      obtain ⟨j2, hj2, ej2⟩ := nO_of h1 (by decide)
      refine lv_topi (fun x_17_1 ex_17_1 => ?_)
      obtain rfl : x_17_1 = nI (10 - j2) := by rw [ex_17_1]; rw [ej2]; exact pk_sub (by omega)
      cases h2 : nO x3 (10 - j2 + 1)
      · refine va_csv (W.runS (As := [.int x3, .int (nI (10 - j2))]) (rest := []) ⟨hx, hb, hml, hown, hts⟩ (c_needUpToF l x3 (10 - j2) (by omega) h2) (va_cwS 2 hts gX0_unknown_X0_needUpTo rfl rfl rfl (by decide +kernel) ⟨Nat.le_of_ble_eq_true rfl, Nat.le_of_ble_eq_true rfl⟩) ⟨fun _ _ _ _ q => q, fun U hU hW => ⟨rfl, trivial⟩⟩ rfl rfl hl.1 rfl (lv_room (Nat.le_of_ble_eq_true rfl)) dX0_unknown_17 ⟨Nat.zero_le _, Nat.zero_le _⟩) (fun _ => ?_)
        exact absurd hbad (by rw [h0, h1, (nU3 hj2 ej2 h2).1, (nU3 hj2 ej2 h2).2]; decide)
      · refine vx_callv (vx_runS (As := [.int x3, .int (nI (10 - j2))]) (rest := []) ⟨hx, hb, hml, hown, hts⟩ (x_needUpTo l hst sz sa sb x3 (10 - j2) (by omega) h2) (va_cwS 2 hts gX0_unknown_X0_needUpTo rfl rfl rfl (by decide +kernel) ⟨Nat.le_of_ble_eq_true rfl, Nat.le_of_ble_eq_true rfl⟩) (nPz_pre hz) rfl rfl hl.1 rfl (lv_room (Nat.le_of_ble_eq_true rfl)) dX0_unknown_17 ⟨Nat.le_of_ble_eq_true rfl, Nat.le_of_ble_eq_true rfl⟩) hS (fun _ _ h => h) (fun _ h => h) (fun _ _ h => h) (fun E ce q9 u t H1 locs1 ht hvm _ hE _ _ hS hce hcv hcl => ?_) (fun _ _ _ _ _ _ h _ _ _ _ => h.elim)
        exact vx_out (fun z hz => (htab z hz).elim) hlocks hce hcv hcl (fun t2 ht2 _ => ⟨(), trivial, hE, hS.F ht2⟩) hS.2.2 (Nat.le_of_ble_eq_true rfl) (Nat.le_of_ble_eq_true rfl)
    · refine vx_callv (vx_runS (As := [.int x2, .int (nI 10)]) (rest := []) ⟨hx, hb, hml, hown, hts⟩ (x_needUpTo l hst sz sa sb x2 10 (by omega) h1) (va_cwS 2 hts gX0_unknown_X0_needUpTo rfl rfl rfl (by decide +kernel) ⟨Nat.le_of_ble_eq_true rfl, Nat.le_of_ble_eq_true rfl⟩) (nPz_pre hz) rfl rfl hl.1 rfl (lv_room (Nat.le_of_ble_eq_true rfl)) dX0_unknown_9 ⟨Nat.le_of_ble_eq_true rfl, Nat.le_of_ble_eq_true rfl⟩) hS (fun _ _ h => h) (fun _ h => h) (fun _ _ h => h) (fun E ce q9 u t H1 locs1 ht hvm _ hE _ _ hS hce hcv hcl => ?_) (fun _ _ _ _ _ _ h _ _ _ _ => h.elim)
      exact vx_out (fun z hz => (htab z hz).elim) hlocks hce hcv hcl (fun t2 ht2 _ => ⟨(), trivial, hE, hS.F ht2⟩) hS.2.2 (Nat.le_of_ble_eq_true rfl) (Nat.le_of_ble_eq_true rfl)
  · refine vx_callv (vx_runS (As := [.int x1, .int (nI 7)]) (rest := []) ⟨hx, hb, hml, hown, hts⟩ (x_needUpTo l hst sz sa sb x1 7 (by omega) h0) (va_cwS 2 hts gX0_unknown_X0_needUpTo rfl rfl rfl (by decide +kernel) ⟨Nat.le_of_ble_eq_true rfl, Nat.le_of_ble_eq_true rfl⟩) (nPz_pre hz) rfl rfl hl.1 rfl (lv_room (Nat.le_of_ble_eq_true rfl)) dX0_unknown_3 ⟨Nat.le_of_ble_eq_true rfl, Nat.le_of_ble_eq_true rfl⟩) hS (fun _ _ h => h) (fun _ h => h) (fun _ _ h => h) (fun E ce q9 u t H1 locs1 ht hvm _ hE _ _ hS hce hcv hcl => ?_) (fun _ _ _ _ _ _ h _ _ _ _ => h.elim)
    exact vx_out (fun z hz => (htab z hz).elim) hlocks hce hcv hcl (fun t2 ht2 _ => ⟨(), trivial, hE, hS.F ht2⟩) hS.2.2 (Nat.le_of_ble_eq_true rfl) (Nat.le_of_ble_eq_true rfl)
set_option maxHeartbeats 4000000 in
set_option maxRecDepth 100000 in
theorem x_reckon (l : Launch) (hst : l.stackTraces = false) (sz sa sb b0 : Nat) (x1 x2 x3 x4 : Int32) (hbad : (nO x1 8 || nO x2 6 || nO x3 8 || nO x4 8) = true) : vx_Met l yX0_reckon wsX0_reckon ({ frames := 7, cells := 1, slots := 6, locals := 110 }) (va_Pc [.ref b0, .int x1, .int x2, .int x3, .int x4] (nPz sz sa sb)) (nQ0v sz) (nXC "java/lang/IllegalArgumentException" sz) 1 6 (fun q => sz ≤ q) := by
  refine vx_ofW (cc := cX0_reckon) (maxL := 7) (ret := none) (by decide) rfl ?_
  intro p e s m args below meth c s₁ B hml htab hv
  obtain ⟨rfl, hz⟩ := hv
  have hx := B.exec
  have hb := B.bytes
  have hr := B.returns
  have hts := atoms_spec (ws := wsX0_reckon) B.pre
  have hown : s.vm.findClass RX0 = some m.cls := findClass_of_methodNamed B.named
  have hlocks := B.notSynchronized
  have hl := lv_entry ([.ref b0, .int x1, .int x2, .int x3, .int x4]) (n := 7) (Nat.le_of_ble_eq_true rfl)
  rw [lg_entry_eq]
  generalize (lg_sl ([.ref b0, .int x1, .int x2, .int x3, .int x4]) ++ List.replicate (7 - (lg_sl ([.ref b0, .int x1, .int x2, .int x3, .int x4])).length) Slot.unset).toArray = ls at hl ⊢
  have hl : lv_has ls 7 [(0, .ref b0), (1, .int x1), (2, .int x2), (3, .int x3), (4, .int x4)] := hl
  have hS : va_S (fun q => sz ≤ q) s.heap s.heap [] := va_S.rf
  refine lv_iload_n hx hb dX0_reckon_0 rfl (lv_at hl 1 rfl) ?_
  refine lv_bipush (v := nI 7) hx hb dX0_reckon_1 (by decide +kernel) ?_
  cases h0 : nO x1 8
  · refine va_csv (W.runS (As := [.int x1, .int (nI 7)]) (rest := []) ⟨hx, hb, hml, hown, hts⟩ (c_needUpToF l x1 7 (by omega) h0) (va_cwS 2 hts gX0_reckon_X0_needUpTo rfl rfl rfl (by decide +kernel) ⟨Nat.le_of_ble_eq_true rfl, Nat.le_of_ble_eq_true rfl⟩) ⟨fun _ _ _ _ q => q, fun U hU hW => ⟨rfl, trivial⟩⟩ rfl rfl hl.1 rfl (lv_room (Nat.le_of_ble_eq_true rfl)) dX0_reckon_3 ⟨Nat.zero_le _, Nat.zero_le _⟩) (fun _ => ?_)
    refine lv_iload_n hx hb dX0_reckon_6 rfl (lv_at hl 2 rfl) ?_
    refine lv_iconst (v := nI 5) hx hb dX0_reckon_7 (by decide +kernel) ?_
    cases h1 : nO x2 6
    · refine va_csv (W.runS (As := [.int x2, .int (nI 5)]) (rest := []) ⟨hx, hb, hml, hown, hts⟩ (c_needUpToF l x2 5 (by omega) h1) (va_cwS 2 hts gX0_reckon_X0_needUpTo rfl rfl rfl (by decide +kernel) ⟨Nat.le_of_ble_eq_true rfl, Nat.le_of_ble_eq_true rfl⟩) ⟨fun _ _ _ _ q => q, fun U hU hW => ⟨rfl, trivial⟩⟩ rfl rfl hl.1 rfl (lv_room (Nat.le_of_ble_eq_true rfl)) dX0_reckon_8 ⟨Nat.zero_le _, Nat.zero_le _⟩) (fun _ => ?_)
      refine lv_iload_n hx hb dX0_reckon_11 rfl (lv_at hl 3 rfl) ?_
      refine lv_bipush (v := nI 7) hx hb dX0_reckon_12 (by decide +kernel) ?_
      cases h2 : nO x3 8
      · refine va_csv (W.runS (As := [.int x3, .int (nI 7)]) (rest := []) ⟨hx, hb, hml, hown, hts⟩ (c_needUpToF l x3 7 (by omega) h2) (va_cwS 2 hts gX0_reckon_X0_needUpTo rfl rfl rfl (by decide +kernel) ⟨Nat.le_of_ble_eq_true rfl, Nat.le_of_ble_eq_true rfl⟩) ⟨fun _ _ _ _ q => q, fun U hU hW => ⟨rfl, trivial⟩⟩ rfl rfl hl.1 rfl (lv_room (Nat.le_of_ble_eq_true rfl)) dX0_reckon_14 ⟨Nat.zero_le _, Nat.zero_le _⟩) (fun _ => ?_)
        refine lv_iload hx hb dX0_reckon_17 (lv_at hl 4 rfl) ?_
        refine lv_bipush (v := nI 7) hx hb dX0_reckon_19 (by decide +kernel) ?_
        cases h3 : nO x4 8
        · refine va_csv (W.runS (As := [.int x4, .int (nI 7)]) (rest := []) ⟨hx, hb, hml, hown, hts⟩ (c_needUpToF l x4 7 (by omega) h3) (va_cwS 2 hts gX0_reckon_X0_needUpTo rfl rfl rfl (by decide +kernel) ⟨Nat.le_of_ble_eq_true rfl, Nat.le_of_ble_eq_true rfl⟩) ⟨fun _ _ _ _ q => q, fun U hU hW => ⟨rfl, trivial⟩⟩ rfl rfl hl.1 rfl (lv_room (Nat.le_of_ble_eq_true rfl)) dX0_reckon_21 ⟨Nat.zero_le _, Nat.zero_le _⟩) (fun _ => ?_)
          exact absurd hbad (by rw [h0, h1, h2, h3]; decide)
        · refine vx_callv (vx_runS (As := [.int x4, .int (nI 7)]) (rest := []) ⟨hx, hb, hml, hown, hts⟩ (x_needUpTo l hst sz sa sb x4 7 (by omega) h3) (va_cwS 2 hts gX0_reckon_X0_needUpTo rfl rfl rfl (by decide +kernel) ⟨Nat.le_of_ble_eq_true rfl, Nat.le_of_ble_eq_true rfl⟩) (nPz_pre hz) rfl rfl hl.1 rfl (lv_room (Nat.le_of_ble_eq_true rfl)) dX0_reckon_21 ⟨Nat.le_of_ble_eq_true rfl, Nat.le_of_ble_eq_true rfl⟩) hS (fun _ _ h => h) (fun _ h => h) (fun _ _ h => h) (fun E ce q9 u t H1 locs1 ht hvm _ hE _ _ hS hce hcv hcl => ?_) (fun _ _ _ _ _ _ h _ _ _ _ => h.elim)
          exact vx_out (fun z hz => (htab z hz).elim) hlocks hce hcv hcl (fun t2 ht2 _ => ⟨(), trivial, hE, hS.F ht2⟩) hS.2.2 (Nat.le_of_ble_eq_true rfl) (Nat.le_of_ble_eq_true rfl)
      · refine vx_callv (vx_runS (As := [.int x3, .int (nI 7)]) (rest := []) ⟨hx, hb, hml, hown, hts⟩ (x_needUpTo l hst sz sa sb x3 7 (by omega) h2) (va_cwS 2 hts gX0_reckon_X0_needUpTo rfl rfl rfl (by decide +kernel) ⟨Nat.le_of_ble_eq_true rfl, Nat.le_of_ble_eq_true rfl⟩) (nPz_pre hz) rfl rfl hl.1 rfl (lv_room (Nat.le_of_ble_eq_true rfl)) dX0_reckon_14 ⟨Nat.le_of_ble_eq_true rfl, Nat.le_of_ble_eq_true rfl⟩) hS (fun _ _ h => h) (fun _ h => h) (fun _ _ h => h) (fun E ce q9 u t H1 locs1 ht hvm _ hE _ _ hS hce hcv hcl => ?_) (fun _ _ _ _ _ _ h _ _ _ _ => h.elim)
        exact vx_out (fun z hz => (htab z hz).elim) hlocks hce hcv hcl (fun t2 ht2 _ => ⟨(), trivial, hE, hS.F ht2⟩) hS.2.2 (Nat.le_of_ble_eq_true rfl) (Nat.le_of_ble_eq_true rfl)
    · refine vx_callv (vx_runS (As := [.int x2, .int (nI 5)]) (rest := []) ⟨hx, hb, hml, hown, hts⟩ (x_needUpTo l hst sz sa sb x2 5 (by omega) h1) (va_cwS 2 hts gX0_reckon_X0_needUpTo rfl rfl rfl (by decide +kernel) ⟨Nat.le_of_ble_eq_true rfl, Nat.le_of_ble_eq_true rfl⟩) (nPz_pre hz) rfl rfl hl.1 rfl (lv_room (Nat.le_of_ble_eq_true rfl)) dX0_reckon_8 ⟨Nat.le_of_ble_eq_true rfl, Nat.le_of_ble_eq_true rfl⟩) hS (fun _ _ h => h) (fun _ h => h) (fun _ _ h => h) (fun E ce q9 u t H1 locs1 ht hvm _ hE _ _ hS hce hcv hcl => ?_) (fun _ _ _ _ _ _ h _ _ _ _ => h.elim)
      exact vx_out (fun z hz => (htab z hz).elim) hlocks hce hcv hcl (fun t2 ht2 _ => ⟨(), trivial, hE, hS.F ht2⟩) hS.2.2 (Nat.le_of_ble_eq_true rfl) (Nat.le_of_ble_eq_true rfl)
  · refine vx_callv (vx_runS (As := [.int x1, .int (nI 7)]) (rest := []) ⟨hx, hb, hml, hown, hts⟩ (x_needUpTo l hst sz sa sb x1 7 (by omega) h0) (va_cwS 2 hts gX0_reckon_X0_needUpTo rfl rfl rfl (by decide +kernel) ⟨Nat.le_of_ble_eq_true rfl, Nat.le_of_ble_eq_true rfl⟩) (nPz_pre hz) rfl rfl hl.1 rfl (lv_room (Nat.le_of_ble_eq_true rfl)) dX0_reckon_3 ⟨Nat.le_of_ble_eq_true rfl, Nat.le_of_ble_eq_true rfl⟩) hS (fun _ _ h => h) (fun _ h => h) (fun _ _ h => h) (fun E ce q9 u t H1 locs1 ht hvm _ hE _ _ hS hce hcv hcl => ?_) (fun _ _ _ _ _ _ h _ _ _ _ => h.elim)
    exact vx_out (fun z hz => (htab z hz).elim) hlocks hce hcv hcl (fun t2 ht2 _ => ⟨(), trivial, hE, hS.F ht2⟩) hS.2.2 (Nat.le_of_ble_eq_true rfl) (Nat.le_of_ble_eq_true rfl)
set_option maxHeartbeats 4000000 in
set_option maxRecDepth 100000 in
theorem x_compare (l : Launch) (hst : l.stackTraces = false) (sz sa sb b0 : Nat) (x1 x2 x3 x4 : Int32) (hbad : (nO x1 8 || nO x2 4 || nO x3 8 || nO x4 8) = true) : vx_Met l yX0_compare wsX0_compare ({ frames := 7, cells := 1, slots := 6, locals := 110 }) (va_Pc [.ref b0, .int x1, .int x2, .int x3, .int x4] (nPz sz sa sb)) (nQ0i sz) (nXC "java/lang/IllegalArgumentException" sz) 1 6 (fun q => sz ≤ q) := by
  refine vx_ofW (cc := cX0_compare) (maxL := 8) (ret := (some .int)) (by decide) rfl ?_
  intro p e s m args below meth c s₁ B hml htab hv
  obtain ⟨rfl, hz⟩ := hv
  have hx := B.exec
  have hb := B.bytes
  have hr := B.returns
  have hts := atoms_spec (ws := wsX0_compare) B.pre
  have hown : s.vm.findClass RX0 = some m.cls := findClass_of_methodNamed B.named
  have hlocks := B.notSynchronized
  have hl := lv_entry ([.ref b0, .int x1, .int x2, .int x3, .int x4]) (n := 8) (Nat.le_of_ble_eq_true rfl)
  rw [lg_entry_eq]
  generalize (lg_sl ([.ref b0, .int x1, .int x2, .int x3, .int x4]) ++ List.replicate (8 - (lg_sl ([.ref b0, .int x1, .int x2, .int x3, .int x4])).length) Slot.unset).toArray = ls at hl ⊢
  have hl : lv_has ls 8 [(0, .ref b0), (1, .int x1), (2, .int x2), (3, .int x3), (4, .int x4)] := hl
  have hS : va_S (fun q => sz ≤ q) s.heap s.heap [] := va_S.rf
  refine lv_iload_n hx hb dX0_compare_0 rfl (lv_at hl 1 rfl) ?_
  refine lv_bipush (v := nI 7) hx hb dX0_compare_1 (by decide +kernel) ?_
  cases h0 : nO x1 8
  · refine va_csv (W.runS (As := [.int x1, .int (nI 7)]) (rest := []) ⟨hx, hb, hml, hown, hts⟩ (c_needUpToF l x1 7 (by omega) h0) (va_cwS 2 hts gX0_compare_X0_needUpTo rfl rfl rfl (by decide +kernel) ⟨Nat.le_of_ble_eq_true rfl, Nat.le_of_ble_eq_true rfl⟩) ⟨fun _ _ _ _ q => q, fun U hU hW => ⟨rfl, trivial⟩⟩ rfl rfl hl.1 rfl (lv_room (Nat.le_of_ble_eq_true rfl)) dX0_compare_3 ⟨Nat.zero_le _, Nat.zero_le _⟩) (fun _ => ?_)
    refine lv_iload_n hx hb dX0_compare_6 rfl (lv_at hl 2 rfl) ?_
    refine lv_iconst (v := nI 3) hx hb dX0_compare_7 (by decide +kernel) ?_
    cases h1 : nO x2 4
    · refine va_csv (W.runS (As := [.int x2, .int (nI 3)]) (rest := []) ⟨hx, hb, hml, hown, hts⟩ (c_needUpToF l x2 3 (by omega) h1) (va_cwS 2 hts gX0_compare_X0_needUpTo rfl rfl rfl (by decide +kernel) ⟨Nat.le_of_ble_eq_true rfl, Nat.le_of_ble_eq_true rfl⟩) ⟨fun _ _ _ _ q => q, fun U hU hW => ⟨rfl, trivial⟩⟩ rfl rfl hl.1 rfl (lv_room (Nat.le_of_ble_eq_true rfl)) dX0_compare_8 ⟨Nat.zero_le _, Nat.zero_le _⟩) (fun _ => ?_)
      refine lv_iload_n hx hb dX0_compare_11 rfl (lv_at hl 3 rfl) ?_
      refine lv_bipush (v := nI 7) hx hb dX0_compare_12 (by decide +kernel) ?_
      cases h2 : nO x3 8
      · refine va_csv (W.runS (As := [.int x3, .int (nI 7)]) (rest := []) ⟨hx, hb, hml, hown, hts⟩ (c_needUpToF l x3 7 (by omega) h2) (va_cwS 2 hts gX0_compare_X0_needUpTo rfl rfl rfl (by decide +kernel) ⟨Nat.le_of_ble_eq_true rfl, Nat.le_of_ble_eq_true rfl⟩) ⟨fun _ _ _ _ q => q, fun U hU hW => ⟨rfl, trivial⟩⟩ rfl rfl hl.1 rfl (lv_room (Nat.le_of_ble_eq_true rfl)) dX0_compare_14 ⟨Nat.zero_le _, Nat.zero_le _⟩) (fun _ => ?_)
        refine lv_iload hx hb dX0_compare_17 (lv_at hl 4 rfl) ?_
        refine lv_bipush (v := nI 7) hx hb dX0_compare_19 (by decide +kernel) ?_
        cases h3 : nO x4 8
        · refine va_csv (W.runS (As := [.int x4, .int (nI 7)]) (rest := []) ⟨hx, hb, hml, hown, hts⟩ (c_needUpToF l x4 7 (by omega) h3) (va_cwS 2 hts gX0_compare_X0_needUpTo rfl rfl rfl (by decide +kernel) ⟨Nat.le_of_ble_eq_true rfl, Nat.le_of_ble_eq_true rfl⟩) ⟨fun _ _ _ _ q => q, fun U hU hW => ⟨rfl, trivial⟩⟩ rfl rfl hl.1 rfl (lv_room (Nat.le_of_ble_eq_true rfl)) dX0_compare_21 ⟨Nat.zero_le _, Nat.zero_le _⟩) (fun _ => ?_)
          exact absurd hbad (by rw [h0, h1, h2, h3]; decide)
        · refine vx_callv (vx_runS (As := [.int x4, .int (nI 7)]) (rest := []) ⟨hx, hb, hml, hown, hts⟩ (x_needUpTo l hst sz sa sb x4 7 (by omega) h3) (va_cwS 2 hts gX0_compare_X0_needUpTo rfl rfl rfl (by decide +kernel) ⟨Nat.le_of_ble_eq_true rfl, Nat.le_of_ble_eq_true rfl⟩) (nPz_pre hz) rfl rfl hl.1 rfl (lv_room (Nat.le_of_ble_eq_true rfl)) dX0_compare_21 ⟨Nat.le_of_ble_eq_true rfl, Nat.le_of_ble_eq_true rfl⟩) hS (fun _ _ h => h) (fun _ h => h) (fun _ _ h => h) (fun E ce q9 u t H1 locs1 ht hvm _ hE _ _ hS hce hcv hcl => ?_) (fun _ _ _ _ _ _ h _ _ _ _ => h.elim)
          exact vx_out (fun z hz => (htab z hz).elim) hlocks hce hcv hcl (fun t2 ht2 _ => ⟨(), trivial, hE, hS.F ht2⟩) hS.2.2 (Nat.le_of_ble_eq_true rfl) (Nat.le_of_ble_eq_true rfl)
      · refine vx_callv (vx_runS (As := [.int x3, .int (nI 7)]) (rest := []) ⟨hx, hb, hml, hown, hts⟩ (x_needUpTo l hst sz sa sb x3 7 (by omega) h2) (va_cwS 2 hts gX0_compare_X0_needUpTo rfl rfl rfl (by decide +kernel) ⟨Nat.le_of_ble_eq_true rfl, Nat.le_of_ble_eq_true rfl⟩) (nPz_pre hz) rfl rfl hl.1 rfl (lv_room (Nat.le_of_ble_eq_true rfl)) dX0_compare_14 ⟨Nat.le_of_ble_eq_true rfl, Nat.le_of_ble_eq_true rfl⟩) hS (fun _ _ h => h) (fun _ h => h) (fun _ _ h => h) (fun E ce q9 u t H1 locs1 ht hvm _ hE _ _ hS hce hcv hcl => ?_) (fun _ _ _ _ _ _ h _ _ _ _ => h.elim)
        exact vx_out (fun z hz => (htab z hz).elim) hlocks hce hcv hcl (fun t2 ht2 _ => ⟨(), trivial, hE, hS.F ht2⟩) hS.2.2 (Nat.le_of_ble_eq_true rfl) (Nat.le_of_ble_eq_true rfl)
    · refine vx_callv (vx_runS (As := [.int x2, .int (nI 3)]) (rest := []) ⟨hx, hb, hml, hown, hts⟩ (x_needUpTo l hst sz sa sb x2 3 (by omega) h1) (va_cwS 2 hts gX0_compare_X0_needUpTo rfl rfl rfl (by decide +kernel) ⟨Nat.le_of_ble_eq_true rfl, Nat.le_of_ble_eq_true rfl⟩) (nPz_pre hz) rfl rfl hl.1 rfl (lv_room (Nat.le_of_ble_eq_true rfl)) dX0_compare_8 ⟨Nat.le_of_ble_eq_true rfl, Nat.le_of_ble_eq_true rfl⟩) hS (fun _ _ h => h) (fun _ h => h) (fun _ _ h => h) (fun E ce q9 u t H1 locs1 ht hvm _ hE _ _ hS hce hcv hcl => ?_) (fun _ _ _ _ _ _ h _ _ _ _ => h.elim)
      exact vx_out (fun z hz => (htab z hz).elim) hlocks hce hcv hcl (fun t2 ht2 _ => ⟨(), trivial, hE, hS.F ht2⟩) hS.2.2 (Nat.le_of_ble_eq_true rfl) (Nat.le_of_ble_eq_true rfl)
  · refine vx_callv (vx_runS (As := [.int x1, .int (nI 7)]) (rest := []) ⟨hx, hb, hml, hown, hts⟩ (x_needUpTo l hst sz sa sb x1 7 (by omega) h0) (va_cwS 2 hts gX0_compare_X0_needUpTo rfl rfl rfl (by decide +kernel) ⟨Nat.le_of_ble_eq_true rfl, Nat.le_of_ble_eq_true rfl⟩) (nPz_pre hz) rfl rfl hl.1 rfl (lv_room (Nat.le_of_ble_eq_true rfl)) dX0_compare_3 ⟨Nat.le_of_ble_eq_true rfl, Nat.le_of_ble_eq_true rfl⟩) hS (fun _ _ h => h) (fun _ h => h) (fun _ _ h => h) (fun E ce q9 u t H1 locs1 ht hvm _ hE _ _ hS hce hcv hcl => ?_) (fun _ _ _ _ _ _ h _ _ _ _ => h.elim)
    exact vx_out (fun z hz => (htab z hz).elim) hlocks hce hcv hcl (fun t2 ht2 _ => ⟨(), trivial, hE, hS.F ht2⟩) hS.2.2 (Nat.le_of_ble_eq_true rfl) (Nat.le_of_ble_eq_true rfl)
set_option maxHeartbeats 4000000 in
set_option maxRecDepth 100000 in
theorem x_choose (l : Launch) (hst : l.stackTraces = false) (sz sa sb b0 : Nat) (x1 x2 x3 x4 : Int32) (hbad : (nO x1 8 || nO x2 8 || nO x3 8 || nO x4 8) = true) : vx_Met l yX0_choose wsX0_choose ({ frames := 7, cells := 1, slots := 6, locals := 110 }) (va_Pc [.ref b0, .int x1, .int x2, .int x3, .int x4] (nPz sz sa sb)) (nQ0v sz) (nXC "java/lang/IllegalArgumentException" sz) 1 6 (fun q => sz ≤ q) := by
  refine vx_ofW (cc := cX0_choose) (maxL := 7) (ret := none) (by decide) rfl ?_
  intro p e s m args below meth c s₁ B hml htab hv
  obtain ⟨rfl, hz⟩ := hv
  have hx := B.exec
  have hb := B.bytes
  have hr := B.returns
  have hts := atoms_spec (ws := wsX0_choose) B.pre
  have hown : s.vm.findClass RX0 = some m.cls := findClass_of_methodNamed B.named
  have hlocks := B.notSynchronized
  have hl := lv_entry ([.ref b0, .int x1, .int x2, .int x3, .int x4]) (n := 7) (Nat.le_of_ble_eq_true rfl)
  rw [lg_entry_eq]
  generalize (lg_sl ([.ref b0, .int x1, .int x2, .int x3, .int x4]) ++ List.replicate (7 - (lg_sl ([.ref b0, .int x1, .int x2, .int x3, .int x4])).length) Slot.unset).toArray = ls at hl ⊢
  have hl : lv_has ls 7 [(0, .ref b0), (1, .int x1), (2, .int x2), (3, .int x3), (4, .int x4)] := hl
  have hS : va_S (fun q => sz ≤ q) s.heap s.heap [] := va_S.rf
  refine lv_iload_n hx hb dX0_choose_0 rfl (lv_at hl 1 rfl) ?_
  refine lv_bipush (v := nI 7) hx hb dX0_choose_1 (by decide +kernel) ?_
  cases h0 : nO x1 8
  · refine va_csv (W.runS (As := [.int x1, .int (nI 7)]) (rest := []) ⟨hx, hb, hml, hown, hts⟩ (c_needUpToF l x1 7 (by omega) h0) (va_cwS 2 hts gX0_choose_X0_needUpTo rfl rfl rfl (by decide +kernel) ⟨Nat.le_of_ble_eq_true rfl, Nat.le_of_ble_eq_true rfl⟩) ⟨fun _ _ _ _ q => q, fun U hU hW => ⟨rfl, trivial⟩⟩ rfl rfl hl.1 rfl (lv_room (Nat.le_of_ble_eq_true rfl)) dX0_choose_3 ⟨Nat.zero_le _, Nat.zero_le _⟩) (fun _ => ?_)
    refine lv_iload_n hx hb dX0_choose_6 rfl (lv_at hl 2 rfl) ?_
    refine lv_bipush (v := nI 7) hx hb dX0_choose_7 (by decide +kernel) ?_
    cases h1 : nO x2 8
    · refine va_csv (W.runS (As := [.int x2, .int (nI 7)]) (rest := []) ⟨hx, hb, hml, hown, hts⟩ (c_needUpToF l x2 7 (by omega) h1) (va_cwS 2 hts gX0_choose_X0_needUpTo rfl rfl rfl (by decide +kernel) ⟨Nat.le_of_ble_eq_true rfl, Nat.le_of_ble_eq_true rfl⟩) ⟨fun _ _ _ _ q => q, fun U hU hW => ⟨rfl, trivial⟩⟩ rfl rfl hl.1 rfl (lv_room (Nat.le_of_ble_eq_true rfl)) dX0_choose_9 ⟨Nat.zero_le _, Nat.zero_le _⟩) (fun _ => ?_)
      refine lv_iload_n hx hb dX0_choose_12 rfl (lv_at hl 3 rfl) ?_
      refine lv_bipush (v := nI 7) hx hb dX0_choose_13 (by decide +kernel) ?_
      cases h2 : nO x3 8
      · refine va_csv (W.runS (As := [.int x3, .int (nI 7)]) (rest := []) ⟨hx, hb, hml, hown, hts⟩ (c_needUpToF l x3 7 (by omega) h2) (va_cwS 2 hts gX0_choose_X0_needUpTo rfl rfl rfl (by decide +kernel) ⟨Nat.le_of_ble_eq_true rfl, Nat.le_of_ble_eq_true rfl⟩) ⟨fun _ _ _ _ q => q, fun U hU hW => ⟨rfl, trivial⟩⟩ rfl rfl hl.1 rfl (lv_room (Nat.le_of_ble_eq_true rfl)) dX0_choose_15 ⟨Nat.zero_le _, Nat.zero_le _⟩) (fun _ => ?_)
        refine lv_iload hx hb dX0_choose_18 (lv_at hl 4 rfl) ?_
        refine lv_bipush (v := nI 7) hx hb dX0_choose_20 (by decide +kernel) ?_
        cases h3 : nO x4 8
        · refine va_csv (W.runS (As := [.int x4, .int (nI 7)]) (rest := []) ⟨hx, hb, hml, hown, hts⟩ (c_needUpToF l x4 7 (by omega) h3) (va_cwS 2 hts gX0_choose_X0_needUpTo rfl rfl rfl (by decide +kernel) ⟨Nat.le_of_ble_eq_true rfl, Nat.le_of_ble_eq_true rfl⟩) ⟨fun _ _ _ _ q => q, fun U hU hW => ⟨rfl, trivial⟩⟩ rfl rfl hl.1 rfl (lv_room (Nat.le_of_ble_eq_true rfl)) dX0_choose_22 ⟨Nat.zero_le _, Nat.zero_le _⟩) (fun _ => ?_)
          exact absurd hbad (by rw [h0, h1, h2, h3]; decide)
        · refine vx_callv (vx_runS (As := [.int x4, .int (nI 7)]) (rest := []) ⟨hx, hb, hml, hown, hts⟩ (x_needUpTo l hst sz sa sb x4 7 (by omega) h3) (va_cwS 2 hts gX0_choose_X0_needUpTo rfl rfl rfl (by decide +kernel) ⟨Nat.le_of_ble_eq_true rfl, Nat.le_of_ble_eq_true rfl⟩) (nPz_pre hz) rfl rfl hl.1 rfl (lv_room (Nat.le_of_ble_eq_true rfl)) dX0_choose_22 ⟨Nat.le_of_ble_eq_true rfl, Nat.le_of_ble_eq_true rfl⟩) hS (fun _ _ h => h) (fun _ h => h) (fun _ _ h => h) (fun E ce q9 u t H1 locs1 ht hvm _ hE _ _ hS hce hcv hcl => ?_) (fun _ _ _ _ _ _ h _ _ _ _ => h.elim)
          exact vx_out (fun z hz => (htab z hz).elim) hlocks hce hcv hcl (fun t2 ht2 _ => ⟨(), trivial, hE, hS.F ht2⟩) hS.2.2 (Nat.le_of_ble_eq_true rfl) (Nat.le_of_ble_eq_true rfl)
      · refine vx_callv (vx_runS (As := [.int x3, .int (nI 7)]) (rest := []) ⟨hx, hb, hml, hown, hts⟩ (x_needUpTo l hst sz sa sb x3 7 (by omega) h2) (va_cwS 2 hts gX0_choose_X0_needUpTo rfl rfl rfl (by decide +kernel) ⟨Nat.le_of_ble_eq_true rfl, Nat.le_of_ble_eq_true rfl⟩) (nPz_pre hz) rfl rfl hl.1 rfl (lv_room (Nat.le_of_ble_eq_true rfl)) dX0_choose_15 ⟨Nat.le_of_ble_eq_true rfl, Nat.le_of_ble_eq_true rfl⟩) hS (fun _ _ h => h) (fun _ h => h) (fun _ _ h => h) (fun E ce q9 u t H1 locs1 ht hvm _ hE _ _ hS hce hcv hcl => ?_) (fun _ _ _ _ _ _ h _ _ _ _ => h.elim)
        exact vx_out (fun z hz => (htab z hz).elim) hlocks hce hcv hcl (fun t2 ht2 _ => ⟨(), trivial, hE, hS.F ht2⟩) hS.2.2 (Nat.le_of_ble_eq_true rfl) (Nat.le_of_ble_eq_true rfl)
    · refine vx_callv (vx_runS (As := [.int x2, .int (nI 7)]) (rest := []) ⟨hx, hb, hml, hown, hts⟩ (x_needUpTo l hst sz sa sb x2 7 (by omega) h1) (va_cwS 2 hts gX0_choose_X0_needUpTo rfl rfl rfl (by decide +kernel) ⟨Nat.le_of_ble_eq_true rfl, Nat.le_of_ble_eq_true rfl⟩) (nPz_pre hz) rfl rfl hl.1 rfl (lv_room (Nat.le_of_ble_eq_true rfl)) dX0_choose_9 ⟨Nat.le_of_ble_eq_true rfl, Nat.le_of_ble_eq_true rfl⟩) hS (fun _ _ h => h) (fun _ h => h) (fun _ _ h => h) (fun E ce q9 u t H1 locs1 ht hvm _ hE _ _ hS hce hcv hcl => ?_) (fun _ _ _ _ _ _ h _ _ _ _ => h.elim)
      exact vx_out (fun z hz => (htab z hz).elim) hlocks hce hcv hcl (fun t2 ht2 _ => ⟨(), trivial, hE, hS.F ht2⟩) hS.2.2 (Nat.le_of_ble_eq_true rfl) (Nat.le_of_ble_eq_true rfl)
  · refine vx_callv (vx_runS (As := [.int x1, .int (nI 7)]) (rest := []) ⟨hx, hb, hml, hown, hts⟩ (x_needUpTo l hst sz sa sb x1 7 (by omega) h0) (va_cwS 2 hts gX0_choose_X0_needUpTo rfl rfl rfl (by decide +kernel) ⟨Nat.le_of_ble_eq_true rfl, Nat.le_of_ble_eq_true rfl⟩) (nPz_pre hz) rfl rfl hl.1 rfl (lv_room (Nat.le_of_ble_eq_true rfl)) dX0_choose_3 ⟨Nat.le_of_ble_eq_true rfl, Nat.le_of_ble_eq_true rfl⟩) hS (fun _ _ h => h) (fun _ h => h) (fun _ _ h => h) (fun E ce q9 u t H1 locs1 ht hvm _ hE _ _ hS hce hcv hcl => ?_) (fun _ _ _ _ _ _ h _ _ _ _ => h.elim)
    exact vx_out (fun z hz => (htab z hz).elim) hlocks hce hcv hcl (fun t2 ht2 _ => ⟨(), trivial, hE, hS.F ht2⟩) hS.2.2 (Nat.le_of_ble_eq_true rfl) (Nat.le_of_ble_eq_true rfl)
set_option maxHeartbeats 4000000 in
set_option maxRecDepth 100000 in
theorem x_join (l : Launch) (hst : l.stackTraces = false) (sz sa sb b0 : Nat) (x1 x2 x3 x4 : Int32) (hbad : (nO x1 8 || nO x2 4 || nO x3 8 || nO x4 8) = true) : vx_Met l yX0_join wsX0_join ({ frames := 7, cells := 1, slots := 6, locals := 110 }) (va_Pc [.ref b0, .int x1, .int x2, .int x3, .int x4] (nPz sz sa sb)) (nQ0i sz) (nXC "java/lang/IllegalArgumentException" sz) 1 6 (fun q => sz ≤ q) := by
  refine vx_ofW (cc := cX0_join) (maxL := 8) (ret := (some .int)) (by decide) rfl ?_
  intro p e s m args below meth c s₁ B hml htab hv
  obtain ⟨rfl, hz⟩ := hv
  have hx := B.exec
  have hb := B.bytes
  have hr := B.returns
  have hts := atoms_spec (ws := wsX0_join) B.pre
  have hown : s.vm.findClass RX0 = some m.cls := findClass_of_methodNamed B.named
  have hlocks := B.notSynchronized
  have hl := lv_entry ([.ref b0, .int x1, .int x2, .int x3, .int x4]) (n := 8) (Nat.le_of_ble_eq_true rfl)
  rw [lg_entry_eq]
  generalize (lg_sl ([.ref b0, .int x1, .int x2, .int x3, .int x4]) ++ List.replicate (8 - (lg_sl ([.ref b0, .int x1, .int x2, .int x3, .int x4])).length) Slot.unset).toArray = ls at hl ⊢
  have hl : lv_has ls 8 [(0, .ref b0), (1, .int x1), (2, .int x2), (3, .int x3), (4, .int x4)] := hl
  have hS : va_S (fun q => sz ≤ q) s.heap s.heap [] := va_S.rf
  refine lv_iload_n hx hb dX0_join_0 rfl (lv_at hl 1 rfl) ?_
  refine lv_bipush (v := nI 7) hx hb dX0_join_1 (by decide +kernel) ?_
  cases h0 : nO x1 8
  · refine va_csv (W.runS (As := [.int x1, .int (nI 7)]) (rest := []) ⟨hx, hb, hml, hown, hts⟩ (c_needUpToF l x1 7 (by omega) h0) (va_cwS 2 hts gX0_join_X0_needUpTo rfl rfl rfl (by decide +kernel) ⟨Nat.le_of_ble_eq_true rfl, Nat.le_of_ble_eq_true rfl⟩) ⟨fun _ _ _ _ q => q, fun U hU hW => ⟨rfl, trivial⟩⟩ rfl rfl hl.1 rfl (lv_room (Nat.le_of_ble_eq_true rfl)) dX0_join_3 ⟨Nat.zero_le _, Nat.zero_le _⟩) (fun _ => ?_)
    refine lv_iload_n hx hb dX0_join_6 rfl (lv_at hl 2 rfl) ?_
    refine lv_iconst (v := nI 3) hx hb dX0_join_7 (by decide +kernel) ?_
    cases h1 : nO x2 4
    · refine va_csv (W.runS (As := [.int x2, .int (nI 3)]) (rest := []) ⟨hx, hb, hml, hown, hts⟩ (c_needUpToF l x2 3 (by omega) h1) (va_cwS 2 hts gX0_join_X0_needUpTo rfl rfl rfl (by decide +kernel) ⟨Nat.le_of_ble_eq_true rfl, Nat.le_of_ble_eq_true rfl⟩) ⟨fun _ _ _ _ q => q, fun U hU hW => ⟨rfl, trivial⟩⟩ rfl rfl hl.1 rfl (lv_room (Nat.le_of_ble_eq_true rfl)) dX0_join_8 ⟨Nat.zero_le _, Nat.zero_le _⟩) (fun _ => ?_)
      refine lv_iload_n hx hb dX0_join_11 rfl (lv_at hl 3 rfl) ?_
      refine lv_bipush (v := nI 7) hx hb dX0_join_12 (by decide +kernel) ?_
      cases h2 : nO x3 8
      · refine va_csv (W.runS (As := [.int x3, .int (nI 7)]) (rest := []) ⟨hx, hb, hml, hown, hts⟩ (c_needUpToF l x3 7 (by omega) h2) (va_cwS 2 hts gX0_join_X0_needUpTo rfl rfl rfl (by decide +kernel) ⟨Nat.le_of_ble_eq_true rfl, Nat.le_of_ble_eq_true rfl⟩) ⟨fun _ _ _ _ q => q, fun U hU hW => ⟨rfl, trivial⟩⟩ rfl rfl hl.1 rfl (lv_room (Nat.le_of_ble_eq_true rfl)) dX0_join_14 ⟨Nat.zero_le _, Nat.zero_le _⟩) (fun _ => ?_)
        refine lv_iload hx hb dX0_join_17 (lv_at hl 4 rfl) ?_
        refine lv_bipush (v := nI 7) hx hb dX0_join_19 (by decide +kernel) ?_
        cases h3 : nO x4 8
        · refine va_csv (W.runS (As := [.int x4, .int (nI 7)]) (rest := []) ⟨hx, hb, hml, hown, hts⟩ (c_needUpToF l x4 7 (by omega) h3) (va_cwS 2 hts gX0_join_X0_needUpTo rfl rfl rfl (by decide +kernel) ⟨Nat.le_of_ble_eq_true rfl, Nat.le_of_ble_eq_true rfl⟩) ⟨fun _ _ _ _ q => q, fun U hU hW => ⟨rfl, trivial⟩⟩ rfl rfl hl.1 rfl (lv_room (Nat.le_of_ble_eq_true rfl)) dX0_join_21 ⟨Nat.zero_le _, Nat.zero_le _⟩) (fun _ => ?_)
          exact absurd hbad (by rw [h0, h1, h2, h3]; decide)
        · refine vx_callv (vx_runS (As := [.int x4, .int (nI 7)]) (rest := []) ⟨hx, hb, hml, hown, hts⟩ (x_needUpTo l hst sz sa sb x4 7 (by omega) h3) (va_cwS 2 hts gX0_join_X0_needUpTo rfl rfl rfl (by decide +kernel) ⟨Nat.le_of_ble_eq_true rfl, Nat.le_of_ble_eq_true rfl⟩) (nPz_pre hz) rfl rfl hl.1 rfl (lv_room (Nat.le_of_ble_eq_true rfl)) dX0_join_21 ⟨Nat.le_of_ble_eq_true rfl, Nat.le_of_ble_eq_true rfl⟩) hS (fun _ _ h => h) (fun _ h => h) (fun _ _ h => h) (fun E ce q9 u t H1 locs1 ht hvm _ hE _ _ hS hce hcv hcl => ?_) (fun _ _ _ _ _ _ h _ _ _ _ => h.elim)
          exact vx_out (fun z hz => (htab z hz).elim) hlocks hce hcv hcl (fun t2 ht2 _ => ⟨(), trivial, hE, hS.F ht2⟩) hS.2.2 (Nat.le_of_ble_eq_true rfl) (Nat.le_of_ble_eq_true rfl)
      · refine vx_callv (vx_runS (As := [.int x3, .int (nI 7)]) (rest := []) ⟨hx, hb, hml, hown, hts⟩ (x_needUpTo l hst sz sa sb x3 7 (by omega) h2) (va_cwS 2 hts gX0_join_X0_needUpTo rfl rfl rfl (by decide +kernel) ⟨Nat.le_of_ble_eq_true rfl, Nat.le_of_ble_eq_true rfl⟩) (nPz_pre hz) rfl rfl hl.1 rfl (lv_room (Nat.le_of_ble_eq_true rfl)) dX0_join_14 ⟨Nat.le_of_ble_eq_true rfl, Nat.le_of_ble_eq_true rfl⟩) hS (fun _ _ h => h) (fun _ h => h) (fun _ _ h => h) (fun E ce q9 u t H1 locs1 ht hvm _ hE _ _ hS hce hcv hcl => ?_) (fun _ _ _ _ _ _ h _ _ _ _ => h.elim)
        exact vx_out (fun z hz => (htab z hz).elim) hlocks hce hcv hcl (fun t2 ht2 _ => ⟨(), trivial, hE, hS.F ht2⟩) hS.2.2 (Nat.le_of_ble_eq_true rfl) (Nat.le_of_ble_eq_true rfl)
    · refine vx_callv (vx_runS (As := [.int x2, .int (nI 3)]) (rest := []) ⟨hx, hb, hml, hown, hts⟩ (x_needUpTo l hst sz sa sb x2 3 (by omega) h1) (va_cwS 2 hts gX0_join_X0_needUpTo rfl rfl rfl (by decide +kernel) ⟨Nat.le_of_ble_eq_true rfl, Nat.le_of_ble_eq_true rfl⟩) (nPz_pre hz) rfl rfl hl.1 rfl (lv_room (Nat.le_of_ble_eq_true rfl)) dX0_join_8 ⟨Nat.le_of_ble_eq_true rfl, Nat.le_of_ble_eq_true rfl⟩) hS (fun _ _ h => h) (fun _ h => h) (fun _ _ h => h) (fun E ce q9 u t H1 locs1 ht hvm _ hE _ _ hS hce hcv hcl => ?_) (fun _ _ _ _ _ _ h _ _ _ _ => h.elim)
      exact vx_out (fun z hz => (htab z hz).elim) hlocks hce hcv hcl (fun t2 ht2 _ => ⟨(), trivial, hE, hS.F ht2⟩) hS.2.2 (Nat.le_of_ble_eq_true rfl) (Nat.le_of_ble_eq_true rfl)
  · refine vx_callv (vx_runS (As := [.int x1, .int (nI 7)]) (rest := []) ⟨hx, hb, hml, hown, hts⟩ (x_needUpTo l hst sz sa sb x1 7 (by omega) h0) (va_cwS 2 hts gX0_join_X0_needUpTo rfl rfl rfl (by decide +kernel) ⟨Nat.le_of_ble_eq_true rfl, Nat.le_of_ble_eq_true rfl⟩) (nPz_pre hz) rfl rfl hl.1 rfl (lv_room (Nat.le_of_ble_eq_true rfl)) dX0_join_3 ⟨Nat.le_of_ble_eq_true rfl, Nat.le_of_ble_eq_true rfl⟩) hS (fun _ _ h => h) (fun _ h => h) (fun _ _ h => h) (fun E ce q9 u t H1 locs1 ht hvm _ hE _ _ hS hce hcv hcl => ?_) (fun _ _ _ _ _ _ h _ _ _ _ => h.elim)
    exact vx_out (fun z hz => (htab z hz).elim) hlocks hce hcv hcl (fun t2 ht2 _ => ⟨(), trivial, hE, hS.F ht2⟩) hS.2.2 (Nat.le_of_ble_eq_true rfl) (Nat.le_of_ble_eq_true rfl)
set_option maxHeartbeats 4000000 in
set_option maxRecDepth 100000 in
theorem x_value (l : Launch) (hst : l.stackTraces = false) (sz sa sb b0 : Nat) (x1 x2 : Int32) (hbad : (nO x1 8 || nO x2 1024) = true) : vx_Met l yX0_value wsX0_value ({ frames := 7, cells := 1, slots := 6, locals := 110 }) (va_Pc [.ref b0, .int x1, .int x2] (nPz sz sa sb)) (nQ0i sz) (nXC "java/lang/IllegalArgumentException" sz) 1 6 (fun q => sz ≤ q) := by
  refine vx_ofW (cc := cX0_value) (maxL := 3) (ret := (some .int)) (by decide) rfl ?_
  intro p e s m args below meth c s₁ B hml htab hv
  obtain ⟨rfl, hz⟩ := hv
  have hx := B.exec
  have hb := B.bytes
  have hr := B.returns
  have hts := atoms_spec (ws := wsX0_value) B.pre
  have hown : s.vm.findClass RX0 = some m.cls := findClass_of_methodNamed B.named
  have hlocks := B.notSynchronized
  have hl := lv_entry ([.ref b0, .int x1, .int x2]) (n := 3) (Nat.le_of_ble_eq_true rfl)
  rw [lg_entry_eq]
  generalize (lg_sl ([.ref b0, .int x1, .int x2]) ++ List.replicate (3 - (lg_sl ([.ref b0, .int x1, .int x2])).length) Slot.unset).toArray = ls at hl ⊢
  have hl : lv_has ls 3 [(0, .ref b0), (1, .int x1), (2, .int x2)] := hl
  have hS : va_S (fun q => sz ≤ q) s.heap s.heap [] := va_S.rf
  refine lv_iload_n hx hb dX0_value_0 rfl (lv_at hl 1 rfl) ?_
  refine lv_bipush (v := nI 7) hx hb dX0_value_1 (by decide +kernel) ?_
  cases h0 : nO x1 8
  · refine va_csv (W.runS (As := [.int x1, .int (nI 7)]) (rest := []) ⟨hx, hb, hml, hown, hts⟩ (c_needUpToF l x1 7 (by omega) h0) (va_cwS 2 hts gX0_value_X0_needUpTo rfl rfl rfl (by decide +kernel) ⟨Nat.le_of_ble_eq_true rfl, Nat.le_of_ble_eq_true rfl⟩) ⟨fun _ _ _ _ q => q, fun U hU hW => ⟨rfl, trivial⟩⟩ rfl rfl hl.1 rfl (lv_room (Nat.le_of_ble_eq_true rfl)) dX0_value_3 ⟨Nat.zero_le _, Nat.zero_le _⟩) (fun _ => ?_)
    refine lv_iload_n hx hb dX0_value_6 rfl (lv_at hl 2 rfl) ?_
    refine lv_sipush (v := nI 1023) hx hb dX0_value_7 (by decide +kernel) ?_
    cases h1 : nO x2 1024
    · refine va_csv (W.runS (As := [.int x2, .int (nI 1023)]) (rest := []) ⟨hx, hb, hml, hown, hts⟩ (c_needUpToF l x2 1023 (by omega) h1) (va_cwS 2 hts gX0_value_X0_needUpTo rfl rfl rfl (by decide +kernel) ⟨Nat.le_of_ble_eq_true rfl, Nat.le_of_ble_eq_true rfl⟩) ⟨fun _ _ _ _ q => q, fun U hU hW => ⟨rfl, trivial⟩⟩ rfl rfl hl.1 rfl (lv_room (Nat.le_of_ble_eq_true rfl)) dX0_value_10 ⟨Nat.zero_le _, Nat.zero_le _⟩) (fun _ => ?_)
      exact absurd hbad (by rw [h0, h1]; decide)
    · refine vx_callv (vx_runS (As := [.int x2, .int (nI 1023)]) (rest := []) ⟨hx, hb, hml, hown, hts⟩ (x_needUpTo l hst sz sa sb x2 1023 (by omega) h1) (va_cwS 2 hts gX0_value_X0_needUpTo rfl rfl rfl (by decide +kernel) ⟨Nat.le_of_ble_eq_true rfl, Nat.le_of_ble_eq_true rfl⟩) (nPz_pre hz) rfl rfl hl.1 rfl (lv_room (Nat.le_of_ble_eq_true rfl)) dX0_value_10 ⟨Nat.le_of_ble_eq_true rfl, Nat.le_of_ble_eq_true rfl⟩) hS (fun _ _ h => h) (fun _ h => h) (fun _ _ h => h) (fun E ce q9 u t H1 locs1 ht hvm _ hE _ _ hS hce hcv hcl => ?_) (fun _ _ _ _ _ _ h _ _ _ _ => h.elim)
      exact vx_out (fun z hz => (htab z hz).elim) hlocks hce hcv hcl (fun t2 ht2 _ => ⟨(), trivial, hE, hS.F ht2⟩) hS.2.2 (Nat.le_of_ble_eq_true rfl) (Nat.le_of_ble_eq_true rfl)
  · refine vx_callv (vx_runS (As := [.int x1, .int (nI 7)]) (rest := []) ⟨hx, hb, hml, hown, hts⟩ (x_needUpTo l hst sz sa sb x1 7 (by omega) h0) (va_cwS 2 hts gX0_value_X0_needUpTo rfl rfl rfl (by decide +kernel) ⟨Nat.le_of_ble_eq_true rfl, Nat.le_of_ble_eq_true rfl⟩) (nPz_pre hz) rfl rfl hl.1 rfl (lv_room (Nat.le_of_ble_eq_true rfl)) dX0_value_3 ⟨Nat.le_of_ble_eq_true rfl, Nat.le_of_ble_eq_true rfl⟩) hS (fun _ _ h => h) (fun _ h => h) (fun _ _ h => h) (fun E ce q9 u t H1 locs1 ht hvm _ hE _ _ hS hce hcv hcl => ?_) (fun _ _ _ _ _ _ h _ _ _ _ => h.elim)
    exact vx_out (fun z hz => (htab z hz).elim) hlocks hce hcv hcl (fun t2 ht2 _ => ⟨(), trivial, hE, hS.F ht2⟩) hS.2.2 (Nat.le_of_ble_eq_true rfl) (Nat.le_of_ble_eq_true rfl)
set_option maxHeartbeats 4000000 in
set_option maxRecDepth 100000 in
theorem x_way (l : Launch) (hst : l.stackTraces = false) (sz sa sb b0 : Nat) (x1 : Int32) (hbad : (nO x1 8) = true) : vx_Met l yX0_way wsX0_way ({ frames := 7, cells := 1, slots := 6, locals := 110 }) (va_Pc [.ref b0, .int x1] (nPz sz sa sb)) (nQ0i sz) (nXC "java/lang/IllegalArgumentException" sz) 1 6 (fun q => sz ≤ q) := by
  refine vx_ofW (cc := cX0_way) (maxL := 3) (ret := (some .int)) (by decide) rfl ?_
  intro p e s m args below meth c s₁ B hml htab hv
  obtain ⟨rfl, hz⟩ := hv
  have hx := B.exec
  have hb := B.bytes
  have hr := B.returns
  have hts := atoms_spec (ws := wsX0_way) B.pre
  have hown : s.vm.findClass RX0 = some m.cls := findClass_of_methodNamed B.named
  have hlocks := B.notSynchronized
  have hl := lv_entry ([.ref b0, .int x1]) (n := 3) (Nat.le_of_ble_eq_true rfl)
  rw [lg_entry_eq]
  generalize (lg_sl ([.ref b0, .int x1]) ++ List.replicate (3 - (lg_sl ([.ref b0, .int x1])).length) Slot.unset).toArray = ls at hl ⊢
  have hl : lv_has ls 3 [(0, .ref b0), (1, .int x1)] := hl
  have hS : va_S (fun q => sz ≤ q) s.heap s.heap [] := va_S.rf
  refine lv_iload_n hx hb dX0_way_0 rfl (lv_at hl 1 rfl) ?_
  refine lv_bipush (v := nI 7) hx hb dX0_way_1 (by decide +kernel) ?_
  cases h0 : nO x1 8
  · refine va_csv (W.runS (As := [.int x1, .int (nI 7)]) (rest := []) ⟨hx, hb, hml, hown, hts⟩ (c_needUpToF l x1 7 (by omega) h0) (va_cwS 2 hts gX0_way_X0_needUpTo rfl rfl rfl (by decide +kernel) ⟨Nat.le_of_ble_eq_true rfl, Nat.le_of_ble_eq_true rfl⟩) ⟨fun _ _ _ _ q => q, fun U hU hW => ⟨rfl, trivial⟩⟩ rfl rfl hl.1 rfl (lv_room (Nat.le_of_ble_eq_true rfl)) dX0_way_3 ⟨Nat.zero_le _, Nat.zero_le _⟩) (fun _ => ?_)
    exact absurd hbad (by rw [h0]; decide)
  · refine vx_callv (vx_runS (As := [.int x1, .int (nI 7)]) (rest := []) ⟨hx, hb, hml, hown, hts⟩ (x_needUpTo l hst sz sa sb x1 7 (by omega) h0) (va_cwS 2 hts gX0_way_X0_needUpTo rfl rfl rfl (by decide +kernel) ⟨Nat.le_of_ble_eq_true rfl, Nat.le_of_ble_eq_true rfl⟩) (nPz_pre hz) rfl rfl hl.1 rfl (lv_room (Nat.le_of_ble_eq_true rfl)) dX0_way_3 ⟨Nat.le_of_ble_eq_true rfl, Nat.le_of_ble_eq_true rfl⟩) hS (fun _ _ h => h) (fun _ h => h) (fun _ _ h => h) (fun E ce q9 u t H1 locs1 ht hvm _ hE _ _ hS hce hcv hcl => ?_) (fun _ _ _ _ _ _ h _ _ _ _ => h.elim)
    exact vx_out (fun z hz => (htab z hz).elim) hlocks hce hcv hcl (fun t2 ht2 _ => ⟨(), trivial, hE, hS.F ht2⟩) hS.2.2 (Nat.le_of_ble_eq_true rfl) (Nat.le_of_ble_eq_true rfl)
set_option maxHeartbeats 4000000 in
set_option maxRecDepth 100000 in
theorem x_same (l : Launch) (hst : l.stackTraces = false) (sz sa sb b0 : Nat) (x1 x2 : Int32) (hbad : (nO x1 8 || nO x2 8) = true) : vx_Met l yX0_same wsX0_same ({ frames := 7, cells := 1, slots := 6, locals := 110 }) (va_Pc [.ref b0, .int x1, .int x2] (nPz sz sa sb)) (nQ0i sz) (nXC "java/lang/IllegalArgumentException" sz) 1 6 (fun q => sz ≤ q) := by
  refine vx_ofW (cc := cX0_same) (maxL := 4) (ret := (some .boolean)) (by decide) rfl ?_
  intro p e s m args below meth c s₁ B hml htab hv
  obtain ⟨rfl, hz⟩ := hv
  have hx := B.exec
  have hb := B.bytes
  have hr := B.returns
  have hts := atoms_spec (ws := wsX0_same) B.pre
  have hown : s.vm.findClass RX0 = some m.cls := findClass_of_methodNamed B.named
  have hlocks := B.notSynchronized
  have hl := lv_entry ([.ref b0, .int x1, .int x2]) (n := 4) (Nat.le_of_ble_eq_true rfl)
  rw [lg_entry_eq]
  generalize (lg_sl ([.ref b0, .int x1, .int x2]) ++ List.replicate (4 - (lg_sl ([.ref b0, .int x1, .int x2])).length) Slot.unset).toArray = ls at hl ⊢
  have hl : lv_has ls 4 [(0, .ref b0), (1, .int x1), (2, .int x2)] := hl
  have hS : va_S (fun q => sz ≤ q) s.heap s.heap [] := va_S.rf
  refine lv_iload_n hx hb dX0_same_0 rfl (lv_at hl 1 rfl) ?_
  refine lv_bipush (v := nI 7) hx hb dX0_same_1 (by decide +kernel) ?_
  cases h0 : nO x1 8
  · refine va_csv (W.runS (As := [.int x1, .int (nI 7)]) (rest := []) ⟨hx, hb, hml, hown, hts⟩ (c_needUpToF l x1 7 (by omega) h0) (va_cwS 2 hts gX0_same_X0_needUpTo rfl rfl rfl (by decide +kernel) ⟨Nat.le_of_ble_eq_true rfl, Nat.le_of_ble_eq_true rfl⟩) ⟨fun _ _ _ _ q => q, fun U hU hW => ⟨rfl, trivial⟩⟩ rfl rfl hl.1 rfl (lv_room (Nat.le_of_ble_eq_true rfl)) dX0_same_3 ⟨Nat.zero_le _, Nat.zero_le _⟩) (fun _ => ?_)
    refine lv_iload_n hx hb dX0_same_6 rfl (lv_at hl 2 rfl) ?_
    refine lv_bipush (v := nI 7) hx hb dX0_same_7 (by decide +kernel) ?_
    cases h1 : nO x2 8
    · refine va_csv (W.runS (As := [.int x2, .int (nI 7)]) (rest := []) ⟨hx, hb, hml, hown, hts⟩ (c_needUpToF l x2 7 (by omega) h1) (va_cwS 2 hts gX0_same_X0_needUpTo rfl rfl rfl (by decide +kernel) ⟨Nat.le_of_ble_eq_true rfl, Nat.le_of_ble_eq_true rfl⟩) ⟨fun _ _ _ _ q => q, fun U hU hW => ⟨rfl, trivial⟩⟩ rfl rfl hl.1 rfl (lv_room (Nat.le_of_ble_eq_true rfl)) dX0_same_9 ⟨Nat.zero_le _, Nat.zero_le _⟩) (fun _ => ?_)
      exact absurd hbad (by rw [h0, h1]; decide)
    · refine vx_callv (vx_runS (As := [.int x2, .int (nI 7)]) (rest := []) ⟨hx, hb, hml, hown, hts⟩ (x_needUpTo l hst sz sa sb x2 7 (by omega) h1) (va_cwS 2 hts gX0_same_X0_needUpTo rfl rfl rfl (by decide +kernel) ⟨Nat.le_of_ble_eq_true rfl, Nat.le_of_ble_eq_true rfl⟩) (nPz_pre hz) rfl rfl hl.1 rfl (lv_room (Nat.le_of_ble_eq_true rfl)) dX0_same_9 ⟨Nat.le_of_ble_eq_true rfl, Nat.le_of_ble_eq_true rfl⟩) hS (fun _ _ h => h) (fun _ h => h) (fun _ _ h => h) (fun E ce q9 u t H1 locs1 ht hvm _ hE _ _ hS hce hcv hcl => ?_) (fun _ _ _ _ _ _ h _ _ _ _ => h.elim)
      exact vx_out (fun z hz => (htab z hz).elim) hlocks hce hcv hcl (fun t2 ht2 _ => ⟨(), trivial, hE, hS.F ht2⟩) hS.2.2 (Nat.le_of_ble_eq_true rfl) (Nat.le_of_ble_eq_true rfl)
  · refine vx_callv (vx_runS (As := [.int x1, .int (nI 7)]) (rest := []) ⟨hx, hb, hml, hown, hts⟩ (x_needUpTo l hst sz sa sb x1 7 (by omega) h0) (va_cwS 2 hts gX0_same_X0_needUpTo rfl rfl rfl (by decide +kernel) ⟨Nat.le_of_ble_eq_true rfl, Nat.le_of_ble_eq_true rfl⟩) (nPz_pre hz) rfl rfl hl.1 rfl (lv_room (Nat.le_of_ble_eq_true rfl)) dX0_same_3 ⟨Nat.le_of_ble_eq_true rfl, Nat.le_of_ble_eq_true rfl⟩) hS (fun _ _ h => h) (fun _ h => h) (fun _ _ h => h) (fun E ce q9 u t H1 locs1 ht hvm _ hE _ _ hS hce hcv hcl => ?_) (fun _ _ _ _ _ _ h _ _ _ _ => h.elim)
    exact vx_out (fun z hz => (htab z hz).elim) hlocks hce hcv hcl (fun t2 ht2 _ => ⟨(), trivial, hE, hS.F ht2⟩) hS.2.2 (Nat.le_of_ble_eq_true rfl) (Nat.le_of_ble_eq_true rfl)
set_option maxHeartbeats 4000000 in
set_option maxRecDepth 100000 in
theorem x_tidy (l : Launch) (hst : l.stackTraces = false) (sz sa sb b0 : Nat) (x1 : Int32) (hbad : (nO x1 3) = true) : vx_Met l yX0_tidy wsX0_tidy ({ frames := 7, cells := 1, slots := 6, locals := 110 }) (va_Pc [.ref b0, .int x1] (nPz sz sa sb)) (nQ0i sz) (nXC "java/lang/IllegalArgumentException" sz) 1 6 (fun q => sz ≤ q) := by
  refine vx_ofW (cc := cX0_tidy) (maxL := 4) (ret := (some .int)) (by decide) rfl ?_
  intro p e s m args below meth c s₁ B hml htab hv
  obtain ⟨rfl, hz⟩ := hv
  have hx := B.exec
  have hb := B.bytes
  have hr := B.returns
  have hts := atoms_spec (ws := wsX0_tidy) B.pre
  have hown : s.vm.findClass RX0 = some m.cls := findClass_of_methodNamed B.named
  have hlocks := B.notSynchronized
  have hl := lv_entry ([.ref b0, .int x1]) (n := 4) (Nat.le_of_ble_eq_true rfl)
  rw [lg_entry_eq]
  generalize (lg_sl ([.ref b0, .int x1]) ++ List.replicate (4 - (lg_sl ([.ref b0, .int x1])).length) Slot.unset).toArray = ls at hl ⊢
  have hl : lv_has ls 4 [(0, .ref b0), (1, .int x1)] := hl
  have hS : va_S (fun q => sz ≤ q) s.heap s.heap [] := va_S.rf
  refine lv_iload_n hx hb dX0_tidy_0 rfl (lv_at hl 1 rfl) ?_
  refine lv_iconst (v := nI 2) hx hb dX0_tidy_1 (by decide +kernel) ?_
  cases h0 : nO x1 3
  · refine va_csv (W.runS (As := [.int x1, .int (nI 2)]) (rest := []) ⟨hx, hb, hml, hown, hts⟩ (c_needUpToF l x1 2 (by omega) h0) (va_cwS 2 hts gX0_tidy_X0_needUpTo rfl rfl rfl (by decide +kernel) ⟨Nat.le_of_ble_eq_true rfl, Nat.le_of_ble_eq_true rfl⟩) ⟨fun _ _ _ _ q => q, fun U hU hW => ⟨rfl, trivial⟩⟩ rfl rfl hl.1 rfl (lv_room (Nat.le_of_ble_eq_true rfl)) dX0_tidy_2 ⟨Nat.zero_le _, Nat.zero_le _⟩) (fun _ => ?_)
    exact absurd hbad (by rw [h0]; decide)
  · refine vx_callv (vx_runS (As := [.int x1, .int (nI 2)]) (rest := []) ⟨hx, hb, hml, hown, hts⟩ (x_needUpTo l hst sz sa sb x1 2 (by omega) h0) (va_cwS 2 hts gX0_tidy_X0_needUpTo rfl rfl rfl (by decide +kernel) ⟨Nat.le_of_ble_eq_true rfl, Nat.le_of_ble_eq_true rfl⟩) (nPz_pre hz) rfl rfl hl.1 rfl (lv_room (Nat.le_of_ble_eq_true rfl)) dX0_tidy_2 ⟨Nat.le_of_ble_eq_true rfl, Nat.le_of_ble_eq_true rfl⟩) hS (fun _ _ h => h) (fun _ h => h) (fun _ _ h => h) (fun E ce q9 u t H1 locs1 ht hvm _ hE _ _ hS hce hcv hcl => ?_) (fun _ _ _ _ _ _ h _ _ _ _ => h.elim)
    exact vx_out (fun z hz => (htab z hz).elim) hlocks hce hcv hcl (fun t2 ht2 _ => ⟨(), trivial, hE, hS.F ht2⟩) hS.2.2 (Nat.le_of_ble_eq_true rfl) (Nat.le_of_ble_eq_true rfl)
