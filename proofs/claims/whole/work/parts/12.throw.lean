/-! ===== what a throw leans on, and the two throws ===== -/
def nIAE : String := "java/lang/IllegalArgumentException"
def nNSE : String := "java/util/NoSuchElementException"
theorem nFace {w : Cond} {args a' : Array Value} {s U : State} (hW : s.WarmedH U.vm) (hf : w.faceAtom = true) (ho : w.onTables = true) (h : w.before args s = true) : w.before a' U = true := by
  have h1 := Cond.faceAtom_setVm (args := args) hW.alike w hf h
  have h2 := Cond.onTables_vm (A := a') (A' := args) (U := U) (U' := s) U.vm w ho
  have h3 : w.before a' (U.setVm U.vm) = true := h2.trans h1
  exact h3
theorem nCast {args : Array Value} {s : State} {E : String} {q : ClassId} (h : s.vm.findClass E = some q) : (Cond.castable E E).before args s = true := by
  have ha : s.vm.assignable q q = true := by
    show Vm.assignableAux s.vm (255 + 1) q q = true
    rw [Vm.assignableAux, beq_self_eq_true, Bool.true_or]
  simp [Cond.before, Cond.holds, Cond.value, h, ha]
/-- the tables' words that a warmed table keeps, but not 'goodWord' -/
def nWd : List Cond := [.declares (Bundle.initS "java/lang/RuntimeException"), .declares (Bundle.initS "java/lang/Exception"), .declares (Bundle.initS Bundle.tN)]
/-- what a throw leans on at U: Throwable's two statics, the two texts, the words nWd; a NoSuchElementException is no IllegalArgumentException -/
def nPz (sz sa sb : Nat) (U : State) : Prop := U.heap.size = sz ∧ vx_Zq Bundle.tN "UNASSIGNED_STACK" Bundle.steD (fun q => sz ≤ q) U U.heap ∧ vx_Zq Bundle.tN "SUPPRESSED_SENTINEL" Bundle.listD (fun q => sz ≤ q) U U.heap ∧ vk_R RX0 58 "a number is out of range" sa U ∧ vk_R RX0 47 "the truth is yes for no way" sb U ∧ va_Nc "java/util/NoSuchElementException" "java/lang/IllegalArgumentException" U ∧ ∀ w ∈ nWd, w.before #[] U = true
theorem nWd_face : ∀ w ∈ nWd, w.faceAtom = true ∧ w.onTables = true := by decide +kernel
theorem nPz.mv {sz sa sb : Nat} {U V : State} (h : nPz sz sa sb U) (hh : V.heap = U.heap) (hW : U.WarmedH V.vm) : nPz sz sa sb V := by
  obtain ⟨h1, h2, h3, h4, h5, h6, h7⟩ := h
  refine ⟨by rw [hh]; exact h1, by rw [hh]; exact h2.moved hW.alike, by rw [hh]; exact h3.moved hW.alike, vk_R.warm hW h4, vk_R.warm hW h5, va_Nc.moved hW.alike h6, fun w hw => ?_⟩
  obtain ⟨f1, f2⟩ := nWd_face w hw
  exact nFace hW f1 f2 (h7 w hw)
theorem nPz_bl {sz sa sb : Nat} {av : List Value} : FrameBlind (va_Pc av (nPz sz sa sb)) := fun a U g mk q => ⟨q.1, nPz.mv (V := U.calling g mk a) q.2 rfl (State.WarmedH.refl U)⟩
theorem nPz_pre {sz sa sb : Nat} {s : State} {av : List Value} (h : nPz sz sa sb s) : PreS s s.heap (va_Pc av (nPz sz sa sb)) av := ⟨nPz_bl, fun U hU hW => ⟨rfl, h.mv hU hW⟩⟩
/-- a throw of an IllegalArgumentException and nothing else -/
abbrev nXC (E0 : String) (sz : Nat) : String → State → State → Prop := vx_X (fun _ : Unit => True) (fun E _ _ => E = E0) (fun q => sz ≤ q)
abbrev nQ0v (sz : Nat) : Array Value → State → Outcome → State → Prop := va_Qv (fun _ : Unit => False) (fun _ _ => True) (fun q => sz ≤ q)
abbrev nQ0i (sz : Nat) : Array Value → State → Outcome → State → Prop := va_Qi (fun (_ : Int32) (_ : Unit) => False) (fun _ _ => True) (fun q => sz ≤ q)
theorem nO_le {x : Int32} {n : Nat} (hn : n + 1 < 2 ^ 31) (h0 : ¬ x < 0) (h1 : x ≤ nI n) : nO x (n + 1) = false := by
  obtain ⟨j, hj, rfl⟩ := nI_of h0
  exact nO_in (by have := (nI_leI hj (by omega)).mp h1; omega) hn
set_option maxHeartbeats 4000000 in
set_option maxRecDepth 100000 in
theorem x_needUpTo (l : Launch) (hst : l.stackTraces = false) (sz sa sb : Nat) (x : Int32) (n : Nat) (hn : n + 1 < 2 ^ 31) (hbad : nO x (n + 1) = true) : vx_Met l yX0_needUpTo wsX0_needUpTo ({ frames := 6, cells := 1, slots := 6, locals := 84 }) (va_Pc [.int x, .int (nI n)] (nPz sz sa sb)) (nQ0v sz) (nXC "java/lang/IllegalArgumentException" sz) 1 6 (fun q => sz ≤ q) := by
  refine vx_ofW (cc := cX0_needUpTo) (maxL := 2) (ret := none) (by decide) rfl ?_
  intro p e s m args below meth c s₁ B hml htab hv
  obtain ⟨rfl, hz⟩ := hv
  have hx := B.exec
  have hb := B.bytes
  have hr := B.returns
  have hts := atoms_spec (ws := wsX0_needUpTo) B.pre
  have hown : s.vm.findClass RX0 = some m.cls := findClass_of_methodNamed B.named
  have hlocks := B.notSynchronized
  have hl := lv_entry ([.int x, .int (nI n)]) (n := 2) (Nat.le_of_ble_eq_true rfl)
  rw [lg_entry_eq]
  generalize (lg_sl ([.int x, .int (nI n)]) ++ List.replicate (2 - (lg_sl ([.int x, .int (nI n)])).length) Slot.unset).toArray = ls at hl ⊢
  have hl : lv_has ls 2 [(0, .int x), (1, .int (nI n))] := hl
  obtain ⟨hsz, hU, hN, hR, -, -, hwd⟩ := hz
  have hin : (Cond.instantiable "java/lang/IllegalArgumentException" 6).before ([.int x, .int (nI n)] : List Value).toArray s = true := hts _ (List.mem_cons_of_mem _ (List.mem_append_right _ (by decide +kernel)))
  obtain ⟨cI, kI, hcI, -⟩ := Cond.instantiable_spec hin
  have hat : ∀ w ∈ vx_atS RX0 60 "java/lang/IllegalArgumentException" ["java/lang/RuntimeException", "java/lang/Exception"], w.before ([.int x, .int (nI n)] : List Value).toArray s = true :=
    vx_hat (B := Cond.castable "java/lang/IllegalArgumentException" "java/lang/IllegalArgumentException" :: nWd) (fun w hw => hts w (List.mem_cons_of_mem _ (List.mem_append_right _ hw))) (by decide +kernel) (vx_c (nCast hcI) (fun w hw => nFace (State.WarmedH.refl s) (nWd_face w hw).1 (nWd_face w hw).2 (hwd w hw)))
  have hS : va_S (fun q => sz ≤ q) s.heap s.heap [] := va_S.rf
  have thr : W p l e (headSpec wsX0_needUpTo ({ frames := 6, cells := 1, slots := 6, locals := 84 })).room s m ([.int x, .int (nI n)] : List Value).toArray below meth c s.heap [] 0 0 (vx_MQ below (nQ0v sz) (nXC "java/lang/IllegalArgumentException" sz) ([.int x, .int (nI n)] : List Value).toArray s 1 6 (fun q => sz ≤ q)) (F0 m 9 ls []) :=
    vx_throwS (A := fun q => sz ≤ q) (names := ["java/lang/RuntimeException", "java/lang/Exception"]) hx hb hst hown (by decide +kernel) (by decide +kernel) (hts (.classLink RX0 56 "java/lang/IllegalArgumentException") (by decide +kernel)) (hts (.initialized "java/lang/IllegalArgumentException") (by decide +kernel)) hR hat (by decide +kernel) hU hN hS (hl.1.trans hml.symm) dX0_needUpTo_9 dX0_needUpTo_12 dX0_needUpTo_13 dX0_needUpTo_15 dX0_needUpTo_18 (fun z hz => (htab z hz).elim) (by decide) (by decide) (by decide) (by decide) hlocks (fun t hvm h1 h2 => ⟨(), trivial, rfl, h1, fun q h3 _ => h2 q h3⟩) (fun z hz => absurd hz List.not_mem_nil) (Nat.le_of_ble_eq_true rfl) (Nat.le_of_ble_eq_true rfl)
  refine lv_iload_n hx hb dX0_needUpTo_0 rfl (lv_at hl 0 rfl) ?_
  refine lv_if_lt (tgt := 9) hx hb dX0_needUpTo_1 (by decide) (fun c1 => ?_) (fun c1 => ?_)
  · exact thr
  · refine lv_iload_n hx hb dX0_needUpTo_4 rfl (lv_at hl 0 rfl) ?_
    refine lv_iload_n hx hb dX0_needUpTo_5 rfl (lv_at hl 1 rfl) ?_
    refine lv_icmp_le (tgt := 19) hx hb dX0_needUpTo_6 (by decide) (fun c2 => ?_) (fun c2 => ?_)
    · rw [nO_le hn c1 c2] at hbad; cases hbad
    · exact thr
theorem c_needUpToF (l : Launch) (x : Int32) (n : Nat) (hn : n + 1 < 2 ^ 31) (h : nO x (n + 1) = false) : Met l yX0_needUpTo wsX0_needUpTo ({ frames := 0, cells := 0, slots := 0, locals := 0 }) (va_Pc [.int x, .int (nI n)] (fun _ => True)) (va_Sv (fun _ => True)) 0 0 (fun _ => False) := by
  obtain ⟨j, hj, rfl⟩ := nO_of h hn
  exact c_needUpTo l j n (by omega) (by omega)
theorem nPz_preV {sz sa sb : Nat} {s : State} {C : String} {b : Addr} {av : List Value} (h : nPz sz sa sb s) (hc : ∃ cellB : Cell, s.heap[b]? = some cellB ∧ cellB.vm.isStatics = false ∧ s.vm.findClass C = some cellB.cls) : PreV s s.heap C b (va_Pc (.ref b :: av) (nPz sz sa sb)) av := ⟨nPz_bl, hc, fun U hU hW => ⟨rfl, h.mv hU hW⟩⟩
theorem nPzw_bl {sz sa sb : Nat} {D : va_G} {cl : List vw_C} {ws : va_W} {tys : List (ClassId × FieldType)} {av : List Value} : FrameBlind (va_Pc av (fun U => nPz sz sa sb U ∧ va_P D cl ws U.heap ∧ va_K D cl tys U)) := fun a U g mk q => ⟨q.1, nPz.mv (V := U.calling g mk a) q.2.1 rfl (State.WarmedH.refl U), q.2.2.1, va_K.moved (u := U) (U := U.calling g mk a) (Vm.Alike.refl U.vm) q.2.2.2⟩
theorem nPzw_preV {sz sa sb : Nat} {s : State} {D : va_G} {cl : List vw_C} {ws : va_W} {tys : List (ClassId × FieldType)} {C : String} {b : Addr} {av : List Value} (h : nPz sz sa sb s) (hP : va_P D cl ws s.heap) (hK : va_K D cl tys s) (hc : ∃ cellB : Cell, s.heap[b]? = some cellB ∧ cellB.vm.isStatics = false ∧ s.vm.findClass C = some cellB.cls) : PreV s s.heap C b (va_Pc (.ref b :: av) (fun U => nPz sz sa sb U ∧ va_P D cl ws U.heap ∧ va_K D cl tys U)) av := ⟨nPzw_bl, hc, fun U hU hW => ⟨rfl, h.mv hU hW, by rw [hU]; exact hP, va_K.moved hW.alike hK⟩⟩
/-- the same at a heap further on, seen from the start -/
theorem nPz_far {sa sb : Nat} {s U : State} {H : Heap} {locs : List Loc} (h : nPz s.heap.size sa sb s) (hS : va_S (fun q => s.heap.size ≤ q) s.heap H locs) (hU : U.heap = H) (hW : s.WarmedH U.vm) : nPz H.size sa sb U := by
  obtain ⟨h1, h2, h3, h4, h5, h6, h7⟩ := h
  refine ⟨by rw [hU], by rw [hU]; exact ((h2.kept hS.2.1).narrow (fun q hq => Nat.le_trans hS.1 hq)).moved hW.alike, by rw [hU]; exact ((h3.kept hS.2.1).narrow (fun q hq => Nat.le_trans hS.1 hq)).moved hW.alike, vk_R.warm hW h4, vk_R.warm hW h5, va_Nc.moved hW.alike h6, fun w hw => nFace hW (nWd_face w hw).1 (nWd_face w hw).2 (h7 w hw)⟩
theorem nPzw_far {sa sb : Nat} {s : State} {H : Heap} {locs : List Loc} {D : va_G} {cl : List vw_C} {ws : va_W} {tys : List (ClassId × FieldType)} {av : List Value} (h : nPz s.heap.size sa sb s) (hS : va_S (fun q => s.heap.size ≤ q) s.heap H locs) (hP : va_P D cl ws H) (hK : va_K D cl tys s) : PreS s H (va_Pc av (fun U => nPz H.size sa sb U ∧ va_P D cl ws U.heap ∧ va_K D cl tys U)) av := ⟨nPzw_bl, fun U hU hW => ⟨rfl, nPz_far h hS hU hW, by rw [hU]; exact hP, va_K.moved hW.alike hK⟩⟩
