set_option maxHeartbeats 4000000 in
set_option maxRecDepth 100000 in
theorem x_wayN (l : Launch) (dC : Nat → ClassId) (dI : Nat → Nat → Nat) (a : Nat → Nat) (k : Nat → ClassId) (fn ft gn gt gm : Nat → Int32) (fl : Int32) (o : Nat → Int64) (hst : l.stackTraces = false) (sz sa sb tr : Nat) (htr : tr < 8) (hn0 : ∀ j, j < 1024 → bt (ft j) tr = false) : vx_Met l yX0_way wsX0_way ({ frames := 7, cells := 1, slots := 6, locals := 110 }) (va_Pc [.ref (a 0), .int (nI tr)] (fun U => nPz sz sa sb U ∧ nPw dC dI a k fn ft gn gt gm fl o U)) (nQ0i sz) (nXC "java/util/NoSuchElementException" sz) 1 6 (fun q => sz ≤ q) := by
  refine vx_ofW (cc := cX0_way) (maxL := 3) (ret := (some .int)) (by decide) rfl ?_
  intro p e s m args below meth c s₁ B hml htab hv
  obtain ⟨rfl, hz, hP, hK⟩ := hv
  have hx := B.exec
  have hb := B.bytes
  have hr := B.returns
  have hts := atoms_spec (ws := wsX0_way) B.pre
  have hown : s.vm.findClass RX0 = some m.cls := findClass_of_methodNamed B.named
  have hlocks := B.notSynchronized
  have hl := lv_entry ([.ref (a 0), .int (nI tr)]) (n := 3) (Nat.le_of_ble_eq_true rfl)
  rw [lg_entry_eq]
  generalize (lg_sl ([.ref (a 0), .int (nI tr)]) ++ List.replicate (3 - (lg_sl ([.ref (a 0), .int (nI tr)])).length) Slot.unset).toArray = ls at hl ⊢
  have hl : lv_has ls 3 [(0, .ref (a 0)), (1, .int (nI tr))] := hl
  refine lv_iload_n hx hb dX0_way_0 rfl (lv_at hl 1 rfl) ?_
  refine lv_bipush (v := nI 7) hx hb dX0_way_1 (by decide +kernel) ?_
  refine va_csv (W.runS (As := [.int (nI tr), .int (nI 7)]) (rest := []) ⟨hx, hb, hml, hown, hts⟩ (c_needUpTo l tr 7 (by omega) (by omega)) (va_cwS 2 hts gX0_way_X0_needUpTo rfl rfl rfl (by decide +kernel) ⟨Nat.le_of_ble_eq_true rfl, Nat.le_of_ble_eq_true rfl⟩) ⟨fun _ _ _ _ q => q, fun U hU hW => ⟨rfl, trivial⟩⟩ rfl rfl hl.1 rfl (lv_room (Nat.le_of_ble_eq_true rfl)) dX0_way_3 ⟨Nat.zero_le _, Nat.zero_le _⟩) (fun _ => ?_)
  refine lv_iconst (v := nI 0) hx hb dX0_way_6 (by decide +kernel) ?_
  refine lv_istore_n (lv' := [(2, .int (nI 0)), (0, .ref (a 0)), (1, .int (nI tr))]) hx hb dX0_way_7 rfl hl (by decide) rfl (fun ls hl => ?_)
  refine nc_loop 1024 (fun w H locs ls => H = s.heap ∧ locs = [] ∧ lv_has ls 3 [(2, .int (nI w)), (0, .ref (a 0)), (1, .int (nI tr))]) ⟨rfl, rfl, (lv_sub hl [0, 1, 2] rfl)⟩ ?_
  intro w H locs ls hw hI ih
  obtain ⟨rfl, rfl, hl⟩ := hI
  refine lv_iload_n hx hb dX0_way_8 rfl (lv_at hl 0 rfl) ?_
  refine lv_sipush (v := nI 1024) hx hb dX0_way_9 (by decide +kernel) ?_
  refine lv_icmp_ge (tgt := 32) hx hb dX0_way_12 (by decide) (fun c1 => ?_) (fun c1 => ?_)
  · obtain ⟨hsz, hU, hN, -, hR, -, hwd⟩ := hz
    have hat : ∀ w ∈ (nc_thrW RX0 49 "java/util/NoSuchElementException" "java/lang/RuntimeException" 13 nc_b13 ["java/lang/Exception"]).filter vx_no, w.before ([.ref (a 0), .int (nI tr)] : List Value).toArray s = true := vx_hat (B := nWd) (fun w hw => hts w (List.mem_cons_of_mem _ (List.mem_append_left _ (List.mem_append_right _ hw)))) (by decide +kernel) (fun w hw => nFace (State.WarmedH.refl s) (nWd_face w hw).1 (nWd_face w hw).2 (hwd w hw))
    have hS : va_S (fun q => sz ≤ q) s.heap s.heap [] := va_S.rf
    exact nc_throwN (A := fun q => sz ≤ q) (Y := "java/lang/RuntimeException") (idx := 13) (bytes := nc_b13) (names := ["java/lang/Exception"]) hx hb hst hown (by decide +kernel) (by decide +kernel) (by decide +kernel) nc_b13_0 nc_b13_1 nc_b13_2 nc_b13_5 (hts (.classLink RX0 45 "java/util/NoSuchElementException") (by decide +kernel)) (hts (.initialized "java/util/NoSuchElementException") (by decide +kernel)) hR hat (by decide +kernel) hU hN hS (hl.1.trans hml.symm) dX0_way_32 dX0_way_35 dX0_way_36 dX0_way_38 dX0_way_41 (fun z hz => (htab z hz).elim) (by decide) (by decide) (by decide) (by decide) hlocks (fun t hvm h1 h2 => ⟨(), trivial, rfl, h1, fun q h3 _ => h2 q h3⟩) (fun z hz => absurd hz List.not_mem_nil) (Nat.le_of_ble_eq_true rfl) (Nat.le_of_ble_eq_true rfl)
  · have hlt : w < 1024 := nLo (by decide) hw c1
    refine lv_aload_n hx hb dX0_way_15 rfl (lv_at hl 1 rfl) ?_
    refine lv_iload_n hx hb dX0_way_16 rfl (lv_at hl 2 rfl) ?_
    refine lv_iload_n hx hb dX0_way_17 rfl (lv_at hl 0 rfl) ?_
    refine vp_callSi (W.runV (As := [.int (nI tr), .int (nI w)]) (rest := []) ⟨hx, hb, hml, hown, hts⟩ (c_isYes l dC dI a k fn ft gn gt gm fl o tr w htr hlt) (cwV 2 hts gX0_way_X0_isYes rfl rfl rfl (by decide +kernel) ⟨Nat.le_of_ble_eq_true rfl, Nat.le_of_ble_eq_true rfl⟩) (nPreV hP hK (va_recv hK hP (ci := 0) (q0 := 0) rfl rfl)) rfl rfl hl.1 rfl (lv_room (Nat.le_of_ble_eq_true rfl)) dX0_way_18 ⟨Nat.zero_le _, Nat.zero_le _⟩) (fun r_18_1 er_18_1 => ?_)
    subst er_18_1
    refine lv_if_eq (tgt := 26) hx hb dX0_way_21 (by decide) (fun c2 => ?_) (fun c2 => ?_)
    · refine lv_iinc (v := nI (w + 1)) (lv' := [(2, .int (nI (w + 1))), (0, .ref (a 0)), (1, .int (nI tr))]) hx hb dX0_way_26 hl (k := 0) rfl (nI_1 w) (by decide) rfl (fun ls hl => ?_)
      refine lv_goto (tgt := 8) hx hb dX0_way_29 (by decide) ?_
      exact ih hlt _ _ _ ⟨rfl, rfl, (lv_sub hl [0, 1, 2] rfl)⟩
    · exact absurd (by rw [hn0 w hlt]; decide +kernel) c2
