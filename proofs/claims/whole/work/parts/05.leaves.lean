theorem inX0_constant : ∀ w ∈ wsX00, w ∈ wsX0_constant := by decide +kernel
theorem inX0_unknown : ∀ w ∈ wsX00, w ∈ wsX0_unknown := by decide +kernel
theorem inX0_reckon : ∀ w ∈ wsX00, w ∈ wsX0_reckon := by decide +kernel
theorem inX0_compare : ∀ w ∈ wsX00, w ∈ wsX0_compare := by decide +kernel
theorem inX0_choose : ∀ w ∈ wsX00, w ∈ wsX0_choose := by decide +kernel
theorem inX0_join : ∀ w ∈ wsX00, w ∈ wsX0_join := by decide +kernel
theorem inX0_value : ∀ w ∈ wsX00, w ∈ wsX0_value := by decide +kernel
theorem inX0_way : ∀ w ∈ wsX00, w ∈ wsX0_way := by decide +kernel
theorem inX0_same : ∀ w ∈ wsX00, w ∈ wsX0_same := by decide +kernel
theorem inX0_tidy : ∀ w ∈ wsX00, w ∈ wsX0_tidy := by decide +kernel
theorem inX0_isYes : ∀ w ∈ wsX00, w ∈ wsX0_isYes := by decide +kernel
theorem inX0_setTruth : ∀ w ∈ wsX00, w ∈ wsX0_setTruth := by decide +kernel
theorem inX0_isZeroEverywhere : ∀ w ∈ wsX00, w ∈ wsX0_isZeroEverywhere := by decide +kernel
set_option maxHeartbeats 4000000 in
set_option maxRecDepth 100000 in
theorem c_place (l : Launch) (x y : Nat) : Met l yX0_place wsX0_place ({ frames := 0, cells := 0, slots := 0, locals := 0 }) (va_Pc [.int (nI x), .int (nI y)] (fun _ => True)) (vp_Si (fun r => r = nI (1024 * x + y))) 0 0 (fun _ => False) := by
  refine Met.ofW (cc := cX0_place) (maxL := 2) (ret := (some .int)) (by decide) rfl ?_
  intro p e s m args below meth c s₁ B hml hv
  obtain ⟨rfl, -⟩ := hv
  have hx := B.exec
  have hb := B.bytes
  have hr := B.returns
  have hts := atoms_spec (ws := wsX0_place) B.pre
  have hown : s.vm.findClass RX0 = some m.cls := findClass_of_methodNamed B.named
  have hlocks := B.notSynchronized
  have hl := lv_entry ([.int (nI x), .int (nI y)]) (n := 2) (Nat.le_of_ble_eq_true rfl)
  rw [lg_entry_eq]
  generalize (lg_sl ([.int (nI x), .int (nI y)]) ++ List.replicate (2 - (lg_sl ([.int (nI x), .int (nI y)])).length) Slot.unset).toArray = ls at hl ⊢
  have hl : lv_has ls 2 [(0, .int (nI x)), (1, .int (nI y))] := hl
  refine lv_iload_n hx hb dX0_place_0 rfl (lv_at hl 0 rfl) ?_
  refine lv_sipush (v := nI 1024) hx hb dX0_place_1 (by decide +kernel) ?_
  refine lv_imul hx hb dX0_place_4 ?_
  refine lv_iload_n hx hb dX0_place_5 rfl (lv_at hl 1 rfl) ?_
  refine lv_iadd hx hb dX0_place_6 ?_
  exact W.iret hx hb hr (fun t ht hW => ⟨_, rfl, (by rw [pk_mul, nI_add, Nat.mul_comm]), ht⟩) (fun _ h => absurd h List.not_mem_nil) dX0_place_7
set_option maxHeartbeats 4000000 in
set_option maxRecDepth 100000 in
theorem c_needUpTo (l : Launch) (x y : Nat) (hxy : x ≤ y) (hy : y < 2 ^ 31) : Met l yX0_needUpTo wsX0_needUpTo ({ frames := 0, cells := 0, slots := 0, locals := 0 }) (va_Pc [.int (nI x), .int (nI y)] (fun _ => True)) (va_Sv (fun _ => True)) 0 0 (fun _ => False) := by
  refine Met.ofW (cc := cX0_needUpTo) (maxL := 2) (ret := none) (by decide) rfl ?_
  intro p e s m args below meth c s₁ B hml hv
  obtain ⟨rfl, -⟩ := hv
  have hx := B.exec
  have hb := B.bytes
  have hr := B.returns
  have hts := atoms_spec (ws := wsX0_needUpTo) B.pre
  have hown : s.vm.findClass RX0 = some m.cls := findClass_of_methodNamed B.named
  have hlocks := B.notSynchronized
  have hl := lv_entry ([.int (nI x), .int (nI y)]) (n := 2) (Nat.le_of_ble_eq_true rfl)
  rw [lg_entry_eq]
  generalize (lg_sl ([.int (nI x), .int (nI y)]) ++ List.replicate (2 - (lg_sl ([.int (nI x), .int (nI y)])).length) Slot.unset).toArray = ls at hl ⊢
  have hl : lv_has ls 2 [(0, .int (nI x)), (1, .int (nI y))] := hl
  refine lv_iload_n hx hb dX0_needUpTo_0 rfl (lv_at hl 0 rfl) ?_
  refine lv_if_lt (tgt := 9) hx hb dX0_needUpTo_1 (by decide) (fun c1 => ?_) (fun c1 => ?_)
  · exact absurd c1 (nI_pos (by omega))
  · refine lv_iload_n hx hb dX0_needUpTo_4 rfl (lv_at hl 0 rfl) ?_
    refine lv_iload_n hx hb dX0_needUpTo_5 rfl (lv_at hl 1 rfl) ?_
    refine lv_icmp_le (tgt := 19) hx hb dX0_needUpTo_6 (by decide) (fun c2 => ?_) (fun c2 => ?_)
    · exact W.vret hx hb hr (fun t ht hW => ⟨rfl, trivial, ht⟩) (fun _ h => absurd h List.not_mem_nil) dX0_needUpTo_19
    · exact absurd (nI_le hxy hy) c2
set_option maxHeartbeats 4000000 in
set_option maxRecDepth 100000 in
theorem c_reckoned (l : Launch) (kd : Nat) (x y : Int32) (hkd : kd < 6) : Met l yX0_reckoned wsX0_reckoned ({ frames := 0, cells := 0, slots := 0, locals := 0 }) (va_Pc [.int (nI kd), .int x, .int y] (fun _ => True)) (vp_Si (fun r => r = nR kd x y)) 0 0 (fun _ => False) := by
  refine Met.ofW (cc := cX0_reckoned) (maxL := 3) (ret := (some .int)) (by decide) rfl ?_
  intro p e s m args below meth c s₁ B hml hv
  obtain ⟨rfl, -⟩ := hv
  have hx := B.exec
  have hb := B.bytes
  have hr := B.returns
  have hts := atoms_spec (ws := wsX0_reckoned) B.pre
  have hown : s.vm.findClass RX0 = some m.cls := findClass_of_methodNamed B.named
  have hlocks := B.notSynchronized
  have hl := lv_entry ([.int (nI kd), .int x, .int y]) (n := 3) (Nat.le_of_ble_eq_true rfl)
  rw [lg_entry_eq]
  generalize (lg_sl ([.int (nI kd), .int x, .int y]) ++ List.replicate (3 - (lg_sl ([.int (nI kd), .int x, .int y])).length) Slot.unset).toArray = ls at hl ⊢
  have hl : lv_has ls 3 [(0, .int (nI kd)), (1, .int x), (2, .int y)] := hl
  refine lv_iload_n hx hb dX0_reckoned_0 rfl (lv_at hl 0 rfl) ?_
  rcases (show kd = 0 ∨ kd = 1 ∨ kd = 2 ∨ kd = 3 ∨ kd = 4 ∨ kd = 5 by omega) with rfl | rfl | rfl | rfl | rfl | rfl
  · refine lv_tableIn (off := 35) (tgt := 36) hx hb dX0_reckoned_1 (by decide +kernel) (by decide +kernel) (by decide +kernel) (by decide) ?_
    refine lv_iload_n hx hb dX0_reckoned_36 rfl (lv_at hl 1 rfl) ?_
    refine lv_iload_n hx hb dX0_reckoned_37 rfl (lv_at hl 2 rfl) ?_
    refine lv_iadd hx hb dX0_reckoned_38 ?_
    exact W.iret hx hb hr (fun t ht hW => ⟨_, rfl, rfl, ht⟩) (fun _ h => absurd h List.not_mem_nil) dX0_reckoned_39
  · refine lv_tableIn (off := 39) (tgt := 40) hx hb dX0_reckoned_1 (by decide +kernel) (by decide +kernel) (by decide +kernel) (by decide) ?_
    refine lv_iload_n hx hb dX0_reckoned_40 rfl (lv_at hl 1 rfl) ?_
    refine lv_iload_n hx hb dX0_reckoned_41 rfl (lv_at hl 2 rfl) ?_
    refine lv_isub hx hb dX0_reckoned_42 ?_
    exact W.iret hx hb hr (fun t ht hW => ⟨_, rfl, rfl, ht⟩) (fun _ h => absurd h List.not_mem_nil) dX0_reckoned_43
  · refine lv_tableIn (off := 43) (tgt := 44) hx hb dX0_reckoned_1 (by decide +kernel) (by decide +kernel) (by decide +kernel) (by decide) ?_
    refine lv_iload_n hx hb dX0_reckoned_44 rfl (lv_at hl 1 rfl) ?_
    refine lv_iload_n hx hb dX0_reckoned_45 rfl (lv_at hl 2 rfl) ?_
    refine lv_imul hx hb dX0_reckoned_46 ?_
    exact W.iret hx hb hr (fun t ht hW => ⟨_, rfl, rfl, ht⟩) (fun _ h => absurd h List.not_mem_nil) dX0_reckoned_47
  · refine lv_tableIn (off := 47) (tgt := 48) hx hb dX0_reckoned_1 (by decide +kernel) (by decide +kernel) (by decide +kernel) (by decide) ?_
    refine lv_iload_n hx hb dX0_reckoned_48 rfl (lv_at hl 2 rfl) ?_
    refine lv_if_ne (tgt := 56) hx hb dX0_reckoned_49 (by decide) (fun cz => ?_) (fun cz => ?_)
    · refine lv_iload_n hx hb dX0_reckoned_56 rfl (lv_at hl 1 rfl) ?_
      refine lv_iload_n hx hb dX0_reckoned_57 rfl (lv_at hl 2 rfl) ?_
      refine lv_idiv hx hb dX0_reckoned_58 cz ?_
      exact W.iret hx hb hr (fun t ht hW => ⟨_, rfl, (if_neg cz).symm, ht⟩) (fun _ h => absurd h List.not_mem_nil) dX0_reckoned_59
    · refine lv_iconst (v := nI 0) hx hb dX0_reckoned_52 (by decide +kernel) ?_
      refine lv_goto (tgt := 59) hx hb dX0_reckoned_53 (by decide) ?_
      exact W.iret hx hb hr (fun t ht hW => ⟨_, rfl, (if_pos cz).symm, ht⟩) (fun _ h => absurd h List.not_mem_nil) dX0_reckoned_59
  · refine lv_tableIn (off := 59) (tgt := 60) hx hb dX0_reckoned_1 (by decide +kernel) (by decide +kernel) (by decide +kernel) (by decide) ?_
    refine lv_iload_n hx hb dX0_reckoned_60 rfl (lv_at hl 2 rfl) ?_
    refine lv_if_ne (tgt := 68) hx hb dX0_reckoned_61 (by decide) (fun cz => ?_) (fun cz => ?_)
    · refine lv_iload_n hx hb dX0_reckoned_68 rfl (lv_at hl 1 rfl) ?_
      refine lv_iload_n hx hb dX0_reckoned_69 rfl (lv_at hl 2 rfl) ?_
      refine lv_irem hx hb dX0_reckoned_70 cz ?_
      exact W.iret hx hb hr (fun t ht hW => ⟨_, rfl, (if_neg cz).symm, ht⟩) (fun _ h => absurd h List.not_mem_nil) dX0_reckoned_71
    · refine lv_iconst (v := nI 0) hx hb dX0_reckoned_64 (by decide +kernel) ?_
      refine lv_goto (tgt := 71) hx hb dX0_reckoned_65 (by decide) ?_
      exact W.iret hx hb hr (fun t ht hW => ⟨_, rfl, (if_pos cz).symm, ht⟩) (fun _ h => absurd h List.not_mem_nil) dX0_reckoned_71
  · refine lv_tableOut (tgt := 72) hx hb dX0_reckoned_1 (by decide +kernel) (by decide) ?_
    refine lv_iload_n hx hb dX0_reckoned_72 rfl (lv_at hl 2 rfl) ?_
    refine lv_ineg hx hb dX0_reckoned_73 ?_
    exact W.iret hx hb hr (fun t ht hW => ⟨_, rfl, rfl, ht⟩) (fun _ h => absurd h List.not_mem_nil) dX0_reckoned_74
theorem nc0f {x y : Int32} (h : ¬ x = y) : nI 0 = nb (nc 0 x y) := by rw [show nc 0 x y = false from decide_eq_false h]; rfl
theorem nc0t {x y : Int32} (h : x = y) : nI 1 = nb (nc 0 x y) := by rw [show nc 0 x y = true from decide_eq_true h]; rfl
theorem nc1f {x y : Int32} (h : x = y) : nI 0 = nb (nc 1 x y) := by rw [show nc 1 x y = !decide (x = y) from rfl, decide_eq_true h]; rfl
theorem nc1t {x y : Int32} (h : ¬ x = y) : nI 1 = nb (nc 1 x y) := by rw [show nc 1 x y = !decide (x = y) from rfl, decide_eq_false h]; rfl
theorem nc2f {x y : Int32} (h : y ≤ x) : nI 0 = nb (nc 2 x y) := by rw [show nc 2 x y = false from decide_eq_false (Int32.not_lt.mpr h)]; rfl
theorem nc2t {x y : Int32} (h : ¬ y ≤ x) : nI 1 = nb (nc 2 x y) := by rw [show nc 2 x y = true from decide_eq_true (Int32.not_le.mp h)]; rfl
theorem nc3f {x y : Int32} (h : y < x) : nI 0 = nb (nc 3 x y) := by rw [show nc 3 x y = false from decide_eq_false (Int32.not_le.mpr h)]; rfl
theorem nc3t {x y : Int32} (h : ¬ y < x) : nI 1 = nb (nc 3 x y) := by rw [show nc 3 x y = true from decide_eq_true (Int32.not_lt.mp h)]; rfl
set_option maxHeartbeats 4000000 in
set_option maxRecDepth 100000 in
theorem c_compared (l : Launch) (kd : Nat) (x y : Int32) (hkd : kd < 4) : Met l yX0_compared wsX0_compared ({ frames := 0, cells := 0, slots := 0, locals := 0 }) (va_Pc [.int (nI kd), .int x, .int y] (fun _ => True)) (vp_Si (fun r => r = nb (nc kd x y))) 0 0 (fun _ => False) := by
  refine Met.ofW (cc := cX0_compared) (maxL := 3) (ret := (some .boolean)) (by decide) rfl ?_
  intro p e s m args below meth c s₁ B hml hv
  obtain ⟨rfl, -⟩ := hv
  have hx := B.exec
  have hb := B.bytes
  have hr := B.returns
  have hts := atoms_spec (ws := wsX0_compared) B.pre
  have hown : s.vm.findClass RX0 = some m.cls := findClass_of_methodNamed B.named
  have hlocks := B.notSynchronized
  have hl := lv_entry ([.int (nI kd), .int x, .int y]) (n := 3) (Nat.le_of_ble_eq_true rfl)
  rw [lg_entry_eq]
  generalize (lg_sl ([.int (nI kd), .int x, .int y]) ++ List.replicate (3 - (lg_sl ([.int (nI kd), .int x, .int y])).length) Slot.unset).toArray = ls at hl ⊢
  have hl : lv_has ls 3 [(0, .int (nI kd)), (1, .int x), (2, .int y)] := hl
  refine lv_iload_n hx hb dX0_compared_0 rfl (lv_at hl 0 rfl) ?_
  rcases (show kd = 0 ∨ kd = 1 ∨ kd = 2 ∨ kd = 3 by omega) with rfl | rfl | rfl | rfl
  · refine lv_tableIn (off := 27) (tgt := 28) hx hb dX0_compared_1 (by decide +kernel) (by decide +kernel) (by decide +kernel) (by decide) ?_
    refine lv_iload_n hx hb dX0_compared_28 rfl (lv_at hl 1 rfl) ?_
    refine lv_iload_n hx hb dX0_compared_29 rfl (lv_at hl 2 rfl) ?_
    refine lv_icmp_ne (tgt := 37) hx hb dX0_compared_30 (by decide) (fun cz => ?_) (fun cz => ?_)
    · refine lv_iconst (v := nI 0) hx hb dX0_compared_37 (by decide +kernel) ?_
      exact W.zret hx hb hr (by decide +kernel) (fun t ht hW => ⟨_, rfl, (nc0f cz), ht⟩) (fun _ h => absurd h List.not_mem_nil) dX0_compared_38
    · refine lv_iconst (v := nI 1) hx hb dX0_compared_33 (by decide +kernel) ?_
      refine lv_goto (tgt := 38) hx hb dX0_compared_34 (by decide) ?_
      exact W.zret hx hb hr (by decide +kernel) (fun t ht hW => ⟨_, rfl, (nc0t cz), ht⟩) (fun _ h => absurd h List.not_mem_nil) dX0_compared_38
  · refine lv_tableIn (off := 38) (tgt := 39) hx hb dX0_compared_1 (by decide +kernel) (by decide +kernel) (by decide +kernel) (by decide) ?_
    refine lv_iload_n hx hb dX0_compared_39 rfl (lv_at hl 1 rfl) ?_
    refine lv_iload_n hx hb dX0_compared_40 rfl (lv_at hl 2 rfl) ?_
    refine lv_icmp_eq (tgt := 48) hx hb dX0_compared_41 (by decide) (fun cz => ?_) (fun cz => ?_)
    · refine lv_iconst (v := nI 0) hx hb dX0_compared_48 (by decide +kernel) ?_
      exact W.zret hx hb hr (by decide +kernel) (fun t ht hW => ⟨_, rfl, (nc1f cz), ht⟩) (fun _ h => absurd h List.not_mem_nil) dX0_compared_49
    · refine lv_iconst (v := nI 1) hx hb dX0_compared_44 (by decide +kernel) ?_
      refine lv_goto (tgt := 49) hx hb dX0_compared_45 (by decide) ?_
      exact W.zret hx hb hr (by decide +kernel) (fun t ht hW => ⟨_, rfl, (nc1t cz), ht⟩) (fun _ h => absurd h List.not_mem_nil) dX0_compared_49
  · refine lv_tableIn (off := 49) (tgt := 50) hx hb dX0_compared_1 (by decide +kernel) (by decide +kernel) (by decide +kernel) (by decide) ?_
    refine lv_iload_n hx hb dX0_compared_50 rfl (lv_at hl 1 rfl) ?_
    refine lv_iload_n hx hb dX0_compared_51 rfl (lv_at hl 2 rfl) ?_
    refine lv_icmp_ge (tgt := 59) hx hb dX0_compared_52 (by decide) (fun cz => ?_) (fun cz => ?_)
    · refine lv_iconst (v := nI 0) hx hb dX0_compared_59 (by decide +kernel) ?_
      exact W.zret hx hb hr (by decide +kernel) (fun t ht hW => ⟨_, rfl, (nc2f cz), ht⟩) (fun _ h => absurd h List.not_mem_nil) dX0_compared_60
    · refine lv_iconst (v := nI 1) hx hb dX0_compared_55 (by decide +kernel) ?_
      refine lv_goto (tgt := 60) hx hb dX0_compared_56 (by decide) ?_
      exact W.zret hx hb hr (by decide +kernel) (fun t ht hW => ⟨_, rfl, (nc2t cz), ht⟩) (fun _ h => absurd h List.not_mem_nil) dX0_compared_60
  · refine lv_tableOut (tgt := 61) hx hb dX0_compared_1 (by decide +kernel) (by decide) ?_
    refine lv_iload_n hx hb dX0_compared_61 rfl (lv_at hl 1 rfl) ?_
    refine lv_iload_n hx hb dX0_compared_62 rfl (lv_at hl 2 rfl) ?_
    refine lv_icmp_gt (tgt := 70) hx hb dX0_compared_63 (by decide) (fun cz => ?_) (fun cz => ?_)
    · refine lv_iconst (v := nI 0) hx hb dX0_compared_70 (by decide +kernel) ?_
      exact W.zret hx hb hr (by decide +kernel) (fun t ht hW => ⟨_, rfl, (nc3f cz), ht⟩) (fun _ h => absurd h List.not_mem_nil) dX0_compared_71
    · refine lv_iconst (v := nI 1) hx hb dX0_compared_66 (by decide +kernel) ?_
      refine lv_goto (tgt := 71) hx hb dX0_compared_67 (by decide) ?_
      exact W.zret hx hb hr (by decide +kernel) (fun t ht hW => ⟨_, rfl, (nc3t cz), ht⟩) (fun _ h => absurd h List.not_mem_nil) dX0_compared_71
set_option maxHeartbeats 4000000 in
set_option maxRecDepth 100000 in
theorem c_joined (l : Launch) (kd : Nat) (x y : Bool) (hkd : kd < 4) : Met l yX0_joined wsX0_joined ({ frames := 0, cells := 0, slots := 0, locals := 0 }) (va_Pc [.int (nI kd), .int (nb x), .int (nb y)] (fun _ => True)) (vp_Si (fun r => r = nb (nj kd x y))) 0 0 (fun _ => False) := by
  refine Met.ofW (cc := cX0_joined) (maxL := 3) (ret := (some .boolean)) (by decide) rfl ?_
  intro p e s m args below meth c s₁ B hml hv
  obtain ⟨rfl, -⟩ := hv
  have hx := B.exec
  have hb := B.bytes
  have hr := B.returns
  have hts := atoms_spec (ws := wsX0_joined) B.pre
  have hown : s.vm.findClass RX0 = some m.cls := findClass_of_methodNamed B.named
  have hlocks := B.notSynchronized
  have hl := lv_entry ([.int (nI kd), .int (nb x), .int (nb y)]) (n := 3) (Nat.le_of_ble_eq_true rfl)
  rw [lg_entry_eq]
  generalize (lg_sl ([.int (nI kd), .int (nb x), .int (nb y)]) ++ List.replicate (3 - (lg_sl ([.int (nI kd), .int (nb x), .int (nb y)])).length) Slot.unset).toArray = ls at hl ⊢
  have hl : lv_has ls 3 [(0, .int (nI kd)), (1, .int (nb x)), (2, .int (nb y))] := hl
  refine lv_iload_n hx hb dX0_joined_0 rfl (lv_at hl 0 rfl) ?_
  rcases (show kd = 0 ∨ kd = 1 ∨ kd = 2 ∨ kd = 3 by omega) with rfl | rfl | rfl | rfl
  · refine lv_tableIn (off := 27) (tgt := 28) hx hb dX0_joined_1 (by decide +kernel) (by decide +kernel) (by decide +kernel) (by decide) ?_
    refine lv_iload_n hx hb dX0_joined_28 rfl (lv_at hl 1 rfl) ?_
    refine lv_if_eq (tgt := 40) hx hb dX0_joined_29 (by decide) (fun c0 => ?_) (fun c0 => ?_)
    · refine lv_iconst (v := nI 0) hx hb dX0_joined_40 (by decide +kernel) ?_
      exact W.zret hx hb hr (by decide +kernel) (fun t ht hW => ⟨_, rfl, (by revert c0; cases x <;> cases y <;> decide +kernel), ht⟩) (fun _ h => absurd h List.not_mem_nil) dX0_joined_41
    · refine lv_iload_n hx hb dX0_joined_32 rfl (lv_at hl 2 rfl) ?_
      refine lv_if_eq (tgt := 40) hx hb dX0_joined_33 (by decide) (fun c1 => ?_) (fun c1 => ?_)
      · refine lv_iconst (v := nI 0) hx hb dX0_joined_40 (by decide +kernel) ?_
        exact W.zret hx hb hr (by decide +kernel) (fun t ht hW => ⟨_, rfl, (by revert c0; revert c1; cases x <;> cases y <;> decide +kernel), ht⟩) (fun _ h => absurd h List.not_mem_nil) dX0_joined_41
      · refine lv_iconst (v := nI 1) hx hb dX0_joined_36 (by decide +kernel) ?_
        refine lv_goto (tgt := 41) hx hb dX0_joined_37 (by decide) ?_
        exact W.zret hx hb hr (by decide +kernel) (fun t ht hW => ⟨_, rfl, (by revert c0; revert c1; cases x <;> cases y <;> decide +kernel), ht⟩) (fun _ h => absurd h List.not_mem_nil) dX0_joined_41
  · refine lv_tableIn (off := 41) (tgt := 42) hx hb dX0_joined_1 (by decide +kernel) (by decide +kernel) (by decide +kernel) (by decide) ?_
    refine lv_iload_n hx hb dX0_joined_42 rfl (lv_at hl 1 rfl) ?_
    refine lv_if_ne (tgt := 50) hx hb dX0_joined_43 (by decide) (fun c0 => ?_) (fun c0 => ?_)
    · refine lv_iconst (v := nI 1) hx hb dX0_joined_50 (by decide +kernel) ?_
      refine lv_goto (tgt := 55) hx hb dX0_joined_51 (by decide) ?_
      exact W.zret hx hb hr (by decide +kernel) (fun t ht hW => ⟨_, rfl, (by revert c0; cases x <;> cases y <;> decide +kernel), ht⟩) (fun _ h => absurd h List.not_mem_nil) dX0_joined_55
    · refine lv_iload_n hx hb dX0_joined_46 rfl (lv_at hl 2 rfl) ?_
      refine lv_if_eq (tgt := 54) hx hb dX0_joined_47 (by decide) (fun c1 => ?_) (fun c1 => ?_)
      · refine lv_iconst (v := nI 0) hx hb dX0_joined_54 (by decide +kernel) ?_
        exact W.zret hx hb hr (by decide +kernel) (fun t ht hW => ⟨_, rfl, (by revert c0; revert c1; cases x <;> cases y <;> decide +kernel), ht⟩) (fun _ h => absurd h List.not_mem_nil) dX0_joined_55
      · refine lv_iconst (v := nI 1) hx hb dX0_joined_50 (by decide +kernel) ?_
        refine lv_goto (tgt := 55) hx hb dX0_joined_51 (by decide) ?_
        exact W.zret hx hb hr (by decide +kernel) (fun t ht hW => ⟨_, rfl, (by revert c0; revert c1; cases x <;> cases y <;> decide +kernel), ht⟩) (fun _ h => absurd h List.not_mem_nil) dX0_joined_55
  · refine lv_tableIn (off := 55) (tgt := 56) hx hb dX0_joined_1 (by decide +kernel) (by decide +kernel) (by decide +kernel) (by decide) ?_
    refine lv_iload_n hx hb dX0_joined_56 rfl (lv_at hl 1 rfl) ?_
    refine lv_iload_n hx hb dX0_joined_57 rfl (lv_at hl 2 rfl) ?_
    refine lv_icmp_eq (tgt := 65) hx hb dX0_joined_58 (by decide) (fun c0 => ?_) (fun c0 => ?_)
    · refine lv_iconst (v := nI 0) hx hb dX0_joined_65 (by decide +kernel) ?_
      exact W.zret hx hb hr (by decide +kernel) (fun t ht hW => ⟨_, rfl, (by revert c0; cases x <;> cases y <;> decide +kernel), ht⟩) (fun _ h => absurd h List.not_mem_nil) dX0_joined_66
    · refine lv_iconst (v := nI 1) hx hb dX0_joined_61 (by decide +kernel) ?_
      refine lv_goto (tgt := 66) hx hb dX0_joined_62 (by decide) ?_
      exact W.zret hx hb hr (by decide +kernel) (fun t ht hW => ⟨_, rfl, (by revert c0; cases x <;> cases y <;> decide +kernel), ht⟩) (fun _ h => absurd h List.not_mem_nil) dX0_joined_66
  · refine lv_tableOut (tgt := 67) hx hb dX0_joined_1 (by decide +kernel) (by decide) ?_
    refine lv_iload_n hx hb dX0_joined_67 rfl (lv_at hl 1 rfl) ?_
    refine lv_if_ne (tgt := 75) hx hb dX0_joined_68 (by decide) (fun c0 => ?_) (fun c0 => ?_)
    · refine lv_iconst (v := nI 0) hx hb dX0_joined_75 (by decide +kernel) ?_
      exact W.zret hx hb hr (by decide +kernel) (fun t ht hW => ⟨_, rfl, (by revert c0; cases x <;> cases y <;> decide +kernel), ht⟩) (fun _ h => absurd h List.not_mem_nil) dX0_joined_76
    · refine lv_iconst (v := nI 1) hx hb dX0_joined_71 (by decide +kernel) ?_
      refine lv_goto (tgt := 76) hx hb dX0_joined_72 (by decide) ?_
      exact W.zret hx hb hr (by decide +kernel) (fun t ht hW => ⟨_, rfl, (by revert c0; cases x <;> cases y <;> decide +kernel), ht⟩) (fun _ h => absurd h List.not_mem_nil) dX0_joined_76
set_option maxHeartbeats 4000000 in
set_option maxRecDepth 100000 in
theorem c_isYes (l : Launch) (dC : Nat → ClassId) (dI : Nat → Nat → Nat) (a : Nat → Nat) (k : Nat → ClassId) (fn ft gn gt gm : Nat → Int32) (fl : Int32) (o : Nat → Int64) (t w : Nat) (htt : t < 8) (hww : w < 1024) : Met l yX0_isYes wsX0_isYes ({ frames := 0, cells := 0, slots := 0, locals := 0 }) (va_Pc [.ref (a 0), .int (nI t), .int (nI w)] (nPw dC dI a k fn ft gn gt gm fl o)) (vp_Si (fun r => r = nb (bt (ft w) t))) 0 0 (fun _ => False) := by
  refine Met.ofW (cc := cX0_isYes) (maxL := 3) (ret := (some .boolean)) (by decide) rfl ?_
  intro p e s m args below meth c s₁ B hml hv
  obtain ⟨rfl, hP, hK⟩ := hv
  have hx := B.exec
  have hb := B.bytes
  have hr := B.returns
  have hts := atoms_spec (ws := wsX0_isYes) B.pre
  have hown : s.vm.findClass RX0 = some m.cls := findClass_of_methodNamed B.named
  have hlocks := B.notSynchronized
  have hl := lv_entry ([.ref (a 0), .int (nI t), .int (nI w)]) (n := 3) (Nat.le_of_ble_eq_true rfl)
  rw [lg_entry_eq]
  generalize (lg_sl ([.ref (a 0), .int (nI t), .int (nI w)]) ++ List.replicate (3 - (lg_sl ([.ref (a 0), .int (nI t), .int (nI w)])).length) Slot.unset).toArray = ls at hl ⊢
  have hl : lv_has ls 3 [(0, .ref (a 0)), (1, .int (nI t)), (2, .int (nI w))] := hl
  refine lv_aload_n hx hb dX0_isYes_0 rfl (lv_at hl 0 rfl) ?_
  refine va_get (D := (dC, dI)) (ci := 0) (v := .ref (a 2)) (C := RX0) (T := TX0) (N := 2) hx hb hts inX0_isYes hown hK hP 0 rfl rfl 1 (by decide) (hts (.fieldLink RX0 13 "NumberCircuits" "truths" "[I") (by decide +kernel)) (fun _ h9 => h9) rfl dX0_isYes_1 ?_
  refine lv_iload_n hx hb dX0_isYes_4 rfl (lv_at hl 2 rfl) ?_
  refine va_iald (i := nI w) hx hb hK hP 2 1 rfl rfl (vp_in_nI (by omega) (by decide)) dX0_isYes_5 ?_
  refine lv_topi (fun x_6_1 ex_6_1 => ?_)
  obtain rfl : x_6_1 = ft w := by rw [ex_6_1]; rw [nI_clamp (show w < 2 ^ 31 by omega)]
  refine lv_iload_n hx hb dX0_isYes_6 rfl (lv_at hl 1 rfl) ?_
  refine lv_ishr hx hb dX0_isYes_7 ?_
  refine lv_iconst (v := nI 1) hx hb dX0_isYes_8 (by decide +kernel) ?_
  refine lv_iand hx hb dX0_isYes_9 ?_
  refine lv_if_eq (tgt := 17) hx hb dX0_isYes_10 (by decide) (fun cz => ?_) (fun cz => ?_)
  · refine lv_iconst (v := nI 0) hx hb dX0_isYes_17 (by decide +kernel) ?_
    exact W.zret hx hb hr (by decide +kernel) (fun t ht hW => ⟨_, rfl, (by rw [nBit_f (by omega) cz]; rfl), ht⟩) (fun _ h => absurd h List.not_mem_nil) dX0_isYes_18
  · refine lv_iconst (v := nI 1) hx hb dX0_isYes_13 (by decide +kernel) ?_
    refine lv_goto (tgt := 18) hx hb dX0_isYes_14 (by decide) ?_
    exact W.zret hx hb hr (by decide +kernel) (fun t ht hW => ⟨_, rfl, (by rw [nBit_t (by omega) cz]; rfl), ht⟩) (fun _ h => absurd h List.not_mem_nil) dX0_isYes_18
set_option maxHeartbeats 4000000 in
set_option maxRecDepth 100000 in
theorem c_setTruth (l : Launch) (dC : Nat → ClassId) (dI : Nat → Nat → Nat) (a : Nat → Nat) (k : Nat → ClassId) (fn ft gn gt gm : Nat → Int32) (fl : Int32) (o : Nat → Int64) (hinj : nInj a) (t w : Nat) (htt : t < 8) (hww : w < 1024) (b : Bool) : Met l yX0_setTruth wsX0_setTruth ({ frames := 0, cells := 0, slots := 0, locals := 0 }) (va_Pc [.ref (a 0), .int (nI t), .int (nI w), .int (nb b)] (nPw dC dI a k fn ft gn gt gm fl o)) (nQv (nPw dC dI a k fn (upd ft (nI w).toNatClampNeg (nS1 (ft w) t b)) gn gt gm fl o) a) 0 0 (nA0 a) := by
  refine Met.ofW (cc := cX0_setTruth) (maxL := 5) (ret := none) (by decide) rfl ?_
  intro p e s m args below meth c s₁ B hml hv
  obtain ⟨rfl, hP, hK⟩ := hv
  have hx := B.exec
  have hb := B.bytes
  have hr := B.returns
  have hts := atoms_spec (ws := wsX0_setTruth) B.pre
  have hown : s.vm.findClass RX0 = some m.cls := findClass_of_methodNamed B.named
  have hlocks := B.notSynchronized
  have hS : va_S (nA0 a) s.heap s.heap [] := va_S.rf
  have hl := lv_entry ([.ref (a 0), .int (nI t), .int (nI w), .int (nb b)]) (n := 5) (Nat.le_of_ble_eq_true rfl)
  rw [lg_entry_eq]
  generalize (lg_sl ([.ref (a 0), .int (nI t), .int (nI w), .int (nb b)]) ++ List.replicate (5 - (lg_sl ([.ref (a 0), .int (nI t), .int (nI w), .int (nb b)])).length) Slot.unset).toArray = ls at hl ⊢
  have hl : lv_has ls 5 [(0, .ref (a 0)), (1, .int (nI t)), (2, .int (nI w)), (3, .int (nb b))] := hl
  refine lv_iconst (v := nI 1) hx hb dX0_setTruth_0 (by decide +kernel) ?_
  refine lv_iload_n hx hb dX0_setTruth_1 rfl (lv_at hl 1 rfl) ?_
  refine lv_ishl hx hb dX0_setTruth_2 ?_
  refine lv_istore (lv' := [(4, .int ((nI 1) <<< ((nI t) &&& 31))), (0, .ref (a 0)), (1, .int (nI t)), (2, .int (nI w)), (3, .int (nb b))]) hx hb dX0_setTruth_3 hl (by decide) rfl (fun ls hl => ?_)
  refine lv_aload_n hx hb dX0_setTruth_5 rfl (lv_at hl 1 rfl) ?_
  refine va_get (D := (dC, dI)) (ci := 0) (v := .ref (a 2)) (C := RX0) (T := TX0) (N := 2) hx hb hts inX0_setTruth hown hK hP 0 rfl rfl 1 (by decide) (hts (.fieldLink RX0 13 "NumberCircuits" "truths" "[I") (by decide +kernel)) (fun _ h9 => h9) rfl dX0_setTruth_6 ?_
  refine lv_iload_n hx hb dX0_setTruth_9 rfl (lv_at hl 3 rfl) ?_
  refine lv_iload_n hx hb dX0_setTruth_10 rfl (lv_at hl 4 rfl) ?_
  refine lv_if_eq (tgt := 26) hx hb dX0_setTruth_11 (by decide) (fun cz => ?_) (fun cz => ?_)
  · refine lv_aload_n hx hb dX0_setTruth_26 rfl (lv_at hl 1 rfl) ?_
    refine va_get (D := (dC, dI)) (ci := 0) (v := .ref (a 2)) (C := RX0) (T := TX0) (N := 2) hx hb hts inX0_setTruth hown hK hP 0 rfl rfl 1 (by decide) (hts (.fieldLink RX0 13 "NumberCircuits" "truths" "[I") (by decide +kernel)) (fun _ h9 => h9) rfl dX0_setTruth_27 ?_
    refine lv_iload_n hx hb dX0_setTruth_30 rfl (lv_at hl 3 rfl) ?_
    refine va_iald (i := nI w) hx hb hK hP 2 1 rfl rfl (vp_in_nI (by omega) (by decide)) dX0_setTruth_31 ?_
    refine lv_topi (fun x_32_1 ex_32_1 => ?_)
    obtain rfl : x_32_1 = ft w := by rw [ex_32_1]; rw [nI_clamp (show w < 2 ^ 31 by omega)]
    refine lv_iload hx hb dX0_setTruth_32 (lv_at hl 0 rfl) ?_
    refine lv_iconst (v := -1) hx hb dX0_setTruth_34 (by decide +kernel) ?_
    refine lv_ixor hx hb dX0_setTruth_35 ?_
    refine lv_iand hx hb dX0_setTruth_36 ?_
    refine va_iast (i := nI w) (x := (ft w) &&& (((nI 1) <<< ((nI t) &&& 31)) ^^^ (-1))) hx hb hK hP (nDA hinj) hS 2 1 rfl rfl (vp_in_nI (by omega) (by decide)) dX0_setTruth_37 (fun H locs hP _ hS => ?_)
    have e_37_2 : upd ft (nI w).toNatClampNeg ((ft w) &&& (((nI 1) <<< ((nI t) &&& 31)) ^^^ (-1))) = upd ft (nI w).toNatClampNeg (nS1 (ft w) t b) := by rw [show nS1 (ft w) t b = (ft w) &&& (((nI 1) <<< ((nI t) &&& 31)) ^^^ (-1)) by rw [nb_f cz]; rfl]
    have hP : va_P (dC, dI) vwCl (nW a k fn (upd ft (nI w).toNatClampNeg (nS1 (ft w) t b)) gn gt gm fl o) H := by rw [← e_37_2]; exact hP
    exact W.vret hx hb hr (fun t ht hW => ⟨⟨(), rfl, trivial, by rw [ht]; exact hP, va_K.moved hW.alike hK⟩, hS.F ht⟩) hS.2.2 dX0_setTruth_38
  · refine lv_aload_n hx hb dX0_setTruth_14 rfl (lv_at hl 1 rfl) ?_
    refine va_get (D := (dC, dI)) (ci := 0) (v := .ref (a 2)) (C := RX0) (T := TX0) (N := 2) hx hb hts inX0_setTruth hown hK hP 0 rfl rfl 1 (by decide) (hts (.fieldLink RX0 13 "NumberCircuits" "truths" "[I") (by decide +kernel)) (fun _ h9 => h9) rfl dX0_setTruth_15 ?_
    refine lv_iload_n hx hb dX0_setTruth_18 rfl (lv_at hl 3 rfl) ?_
    refine va_iald (i := nI w) hx hb hK hP 2 1 rfl rfl (vp_in_nI (by omega) (by decide)) dX0_setTruth_19 ?_
    refine lv_topi (fun x_20_1 ex_20_1 => ?_)
    obtain rfl : x_20_1 = ft w := by rw [ex_20_1]; rw [nI_clamp (show w < 2 ^ 31 by omega)]
    refine lv_iload hx hb dX0_setTruth_20 (lv_at hl 0 rfl) ?_
    refine lv_ior hx hb dX0_setTruth_22 ?_
    refine lv_goto (tgt := 37) hx hb dX0_setTruth_23 (by decide) ?_
    refine va_iast (i := nI w) (x := (ft w) ||| ((nI 1) <<< ((nI t) &&& 31))) hx hb hK hP (nDA hinj) hS 2 1 rfl rfl (vp_in_nI (by omega) (by decide)) dX0_setTruth_37 (fun H locs hP _ hS => ?_)
    have e_37_2 : upd ft (nI w).toNatClampNeg ((ft w) ||| ((nI 1) <<< ((nI t) &&& 31))) = upd ft (nI w).toNatClampNeg (nS1 (ft w) t b) := by rw [show nS1 (ft w) t b = (ft w) ||| ((nI 1) <<< ((nI t) &&& 31)) by rw [nb_t cz]; rfl]
    have hP : va_P (dC, dI) vwCl (nW a k fn (upd ft (nI w).toNatClampNeg (nS1 (ft w) t b)) gn gt gm fl o) H := by rw [← e_37_2]; exact hP
    exact W.vret hx hb hr (fun t ht hW => ⟨⟨(), rfl, trivial, by rw [ht]; exact hP, va_K.moved hW.alike hK⟩, hS.F ht⟩) hS.2.2 dX0_setTruth_38
set_option maxHeartbeats 4000000 in
set_option maxRecDepth 100000 in
theorem c_isZero (l : Launch) (dC : Nat → ClassId) (dI : Nat → Nat → Nat) (a : Nat → Nat) (k : Nat → ClassId) (fn ft gn gt gm : Nat → Int32) (fl : Int32) (o : Nat → Int64) (sl : Nat) (hsl : sl < 8) : Met l yX0_isZeroEverywhere wsX0_isZeroEverywhere ({ frames := 1, cells := 0, slots := 0, locals := 21 }) (va_Pc [.ref (a 0), .int (nI sl)] (nPw dC dI a k fn ft gn gt gm fl o)) (vp_Si (fun r => r = nb (nAll (nqZ fn sl) 1024))) 0 0 (fun _ => False) := by
  refine Met.ofW (cc := cX0_isZeroEverywhere) (maxL := 3) (ret := (some .boolean)) (by decide) rfl ?_
  intro p e s m args below meth c s₁ B hml hv
  obtain ⟨rfl, hP, hK⟩ := hv
  have hx := B.exec
  have hb := B.bytes
  have hr := B.returns
  have hts := atoms_spec (ws := wsX0_isZeroEverywhere) B.pre
  have hown : s.vm.findClass RX0 = some m.cls := findClass_of_methodNamed B.named
  have hlocks := B.notSynchronized
  have hl := lv_entry ([.ref (a 0), .int (nI sl)]) (n := 3) (Nat.le_of_ble_eq_true rfl)
  rw [lg_entry_eq]
  generalize (lg_sl ([.ref (a 0), .int (nI sl)]) ++ List.replicate (3 - (lg_sl ([.ref (a 0), .int (nI sl)])).length) Slot.unset).toArray = ls at hl ⊢
  have hl : lv_has ls 3 [(0, .ref (a 0)), (1, .int (nI sl))] := hl
  refine lv_iconst (v := nI 0) hx hb dX0_isZeroEverywhere_0 (by decide +kernel) ?_
  refine lv_istore_n (lv' := [(2, .int (nI 0)), (0, .ref (a 0)), (1, .int (nI sl))]) hx hb dX0_isZeroEverywhere_1 rfl hl (by decide) rfl (fun ls hl => ?_)
  refine nc_loop 1024 (fun w H locs ls => H = s.heap ∧ locs = [] ∧ (∀ j, j < w → (nqZ fn sl) j = true) ∧ lv_has ls 3 [(0, .ref (a 0)), (1, .int (nI sl)), (2, .int (nI w))]) ⟨rfl, rfl, (fun j hj => absurd hj (by omega)), (lv_sub hl [1, 2, 0] rfl)⟩ ?_
  intro w H locs ls hw hI ih
  obtain ⟨rfl, rfl, hq, hl⟩ := hI
  refine lv_iload_n hx hb dX0_isZeroEverywhere_2 rfl (lv_at hl 2 rfl) ?_
  refine lv_sipush (v := nI 1024) hx hb dX0_isZeroEverywhere_3 (by decide +kernel) ?_
  refine lv_icmp_ge (tgt := 30) hx hb dX0_isZeroEverywhere_6 (by decide) (fun c1 => ?_) (fun c1 => ?_)
  · obtain rfl : w = 1024 := nHi (by decide) hw c1
    refine lv_iconst (v := nI 1) hx hb dX0_isZeroEverywhere_30 (by decide +kernel) ?_
    exact W.zret hx hb hr (by decide +kernel) (fun t ht hW => ⟨_, rfl, (by rw [nAll_t 1024 hq]; rfl), ht⟩) (fun _ h => absurd h List.not_mem_nil) dX0_isZeroEverywhere_31
  · have hlt : w < 1024 := nLo (by decide) hw c1
    refine lv_aload_n hx hb dX0_isZeroEverywhere_9 rfl (lv_at hl 0 rfl) ?_
    refine va_get (D := (dC, dI)) (ci := 0) (v := .ref (a 1)) (C := RX0) (T := TX0) (N := 2) hx hb hts inX0_isZeroEverywhere hown hK hP 0 rfl rfl 0 (by decide) (hts (.fieldLink RX0 9 "NumberCircuits" "numbers" "[S") (by decide +kernel)) (fun _ h9 => h9) rfl dX0_isZeroEverywhere_10 ?_
    refine lv_iload_n hx hb dX0_isZeroEverywhere_13 rfl (lv_at hl 1 rfl) ?_
    refine lv_iload_n hx hb dX0_isZeroEverywhere_14 rfl (lv_at hl 2 rfl) ?_
    refine vp_callSi (W.runS (As := [.int (nI sl), .int (nI w)]) (rest := [.ref (a 1)]) ⟨hx, hb, hml, hown, hts⟩ (c_place l sl w) (va_cwS 2 hts gX0_isZeroEverywhere_X0_place rfl rfl rfl (by decide +kernel) ⟨Nat.le_of_ble_eq_true rfl, Nat.le_of_ble_eq_true rfl⟩) ⟨fun _ _ _ _ q => q, fun U hU hW => ⟨rfl, trivial⟩⟩ rfl rfl hl.1 rfl (lv_room (Nat.le_of_ble_eq_true rfl)) dX0_isZeroEverywhere_15 ⟨Nat.zero_le _, Nat.zero_le _⟩) (fun r_15_1 er_15_1 => ?_)
    subst er_15_1
    refine va_sald (i := nI (1024 * sl + w)) hx hb hK hP 1 0 rfl rfl (vp_in_nI (by omega) (by decide)) dX0_isZeroEverywhere_18 ?_
    refine lv_topi (fun x_19_2 ex_19_2 => ?_)
    obtain rfl : x_19_2 = fn (1024 * sl + w) := by rw [ex_19_2]; rw [nI_clamp (show 1024 * sl + w < 2 ^ 31 by omega)]
    refine lv_if_eq (tgt := 24) hx hb dX0_isZeroEverywhere_19 (by decide) (fun c2 => ?_) (fun c2 => ?_)
    · refine lv_iinc (v := nI (w + 1)) (lv' := [(2, .int (nI (w + 1))), (0, .ref (a 0)), (1, .int (nI sl))]) hx hb dX0_isZeroEverywhere_24 hl (k := 2) rfl (nI_1 w) (by decide) rfl (fun ls hl => ?_)
      refine lv_goto (tgt := 2) hx hb dX0_isZeroEverywhere_27 (by decide) ?_
      exact ih hlt _ _ _ ⟨rfl, rfl, lt_s hq (decide_eq_true c2), (lv_sub hl [1, 2, 0] rfl)⟩
    · refine lv_iconst (v := nI 0) hx hb dX0_isZeroEverywhere_22 (by decide +kernel) ?_
      exact W.zret hx hb hr (by decide +kernel) (fun t ht hW => ⟨_, rfl, (by rw [nAll_f (w := w) (decide_eq_false c2) 1024 hlt]; rfl), ht⟩) (fun _ h => absurd h List.not_mem_nil) dX0_isZeroEverywhere_23
