/-! ===== the one world of all methods: x (3 cells), m (4 cells), the law's long[1] ===== -/
abbrev nW (a : Nat → Nat) (k : Nat → ClassId) (fn ft gn gt gm : Nat → Int32) (fl : Int32) (o : Nat → Int64) : va_W := [(a 0, .inr (0, [.ref (a 1), .ref (a 2)])), (a 1, .inl (k 0, 8192, .inl fn)), (a 2, .inl (k 1, 1024, .inl ft)), (a 3, .inr (1, [.int fl, .ref (a 4), .ref (a 5), .ref (a 6)])), (a 4, .inl (k 2, 8192, .inl gn)), (a 5, .inl (k 3, 8192, .inl gt)), (a 6, .inl (k 4, 1024, .inl gm)), (a 7, .inl (k 5, 1, .inr (.inl o)))]
abbrev nT (k : Nat → ClassId) : List (ClassId × FieldType) := [(k 0, .short), (k 1, .int), (k 2, .int), (k 3, .boolean), (k 4, .int), (k 5, .long)]
/-- the eight addresses are apart -/
def nInj (a : Nat → Nat) : Prop := ∀ i j : Nat, i < 8 → j < 8 → a i = a j → i = j
/-- the cells of the world -/
def nA0 (a : Nat → Nat) : Nat → Prop := fun q => ∃ i : Nat, i < 8 ∧ q = a i
theorem nW_at {a : Nat → Nat} {k : Nat → ClassId} {fn ft gn gt gm : Nat → Int32} {fl : Int32} {o : Nat → Int64} : ∀ (i : Nat) (q : Nat × va_E), (nW a k fn ft gn gt gm fl o)[i]? = some q → i < 8 ∧ q.1 = a i
  | 0, _, h => by cases h; exact ⟨by decide, rfl⟩
  | 1, _, h => by cases h; exact ⟨by decide, rfl⟩
  | 2, _, h => by cases h; exact ⟨by decide, rfl⟩
  | 3, _, h => by cases h; exact ⟨by decide, rfl⟩
  | 4, _, h => by cases h; exact ⟨by decide, rfl⟩
  | 5, _, h => by cases h; exact ⟨by decide, rfl⟩
  | 6, _, h => by cases h; exact ⟨by decide, rfl⟩
  | 7, _, h => by cases h; exact ⟨by decide, rfl⟩
  | n + 8, _, h => by simp [nW] at h
theorem nDof {A : Nat → Prop} {a : Nat → Nat} (hinj : nInj a) (hA : ∀ i : Nat, i < 8 → A (a i)) {k : Nat → ClassId} {fn ft gn gt gm : Nat → Int32} {fl : Int32} {o : Nat → Int64} : va_D A (nW a k fn ft gn gt gm fl o) := by
  refine ⟨fun i j p q hp hq hpq => ?_, fun i q hq => ?_⟩
  · obtain ⟨h1, h2⟩ := nW_at i p hp
    obtain ⟨h3, h4⟩ := nW_at j q hq
    exact hinj i j h1 h3 (by rw [← h2, ← h4]; exact hpq)
  · obtain ⟨h1, h2⟩ := nW_at i q hq
    rw [h2]
    exact hA i h1
theorem nDA {a : Nat → Nat} (hinj : nInj a) {k : Nat → ClassId} {fn ft gn gt gm : Nat → Int32} {fl : Int32} {o : Nat → Int64} : va_D (nA0 a) (nW a k fn ft gn gt gm fl o) := nDof hinj (fun i hi => ⟨i, hi, rfl⟩)
/-- the world, and the tables' words of it -/
abbrev nPw (dC : Nat → ClassId) (dI : Nat → Nat → Nat) (a : Nat → Nat) (k : Nat → ClassId) (fn ft gn gt gm : Nat → Int32) (fl : Int32) (o : Nat → Int64) (U : State) : Prop := va_P (dC, dI) vwCl (nW a k fn ft gn gt gm fl o) U.heap ∧ va_K (dC, dI) vwCl (nT k) U
theorem nBl {D : va_G} {cl : List vw_C} {ws : va_W} {tys : List (ClassId × FieldType)} {av : List Value} : FrameBlind (va_Pc av (fun U => va_P D cl ws U.heap ∧ va_K D cl tys U)) := fun a U g mk q => ⟨q.1, q.2.1, va_K.moved (u := U) (U := U.calling g mk a) (Vm.Alike.refl U.vm) q.2.2⟩
theorem nPre {s : State} {H : Heap} {D : va_G} {cl : List vw_C} {ws : va_W} {tys : List (ClassId × FieldType)} {av : List Value} (hP : va_P D cl ws H) (hK : va_K D cl tys s) : PreS s H (va_Pc av (fun U => va_P D cl ws U.heap ∧ va_K D cl tys U)) av := ⟨nBl, fun U hU hW => ⟨rfl, by rw [hU]; exact hP, va_K.moved hW.alike hK⟩⟩
theorem nPreV {s : State} {H : Heap} {D : va_G} {cl : List vw_C} {ws : va_W} {tys : List (ClassId × FieldType)} {C : String} {b : Addr} {av : List Value} (hP : va_P D cl ws H) (hK : va_K D cl tys s) (hc : ∃ cellB : Cell, H[b]? = some cellB ∧ cellB.vm.isStatics = false ∧ s.vm.findClass C = some cellB.cls) : PreV s H C b (va_Pc (.ref b :: av) (fun U => va_P D cl ws U.heap ∧ va_K D cl tys U)) av := ⟨nBl, hc, fun U hU hW => ⟨rfl, by rw [hU]; exact hP, va_K.moved hW.alike hK⟩⟩
/-- a method's end: void, an int -/
abbrev nQv (B : State → Prop) (a : Nat → Nat) : Array Value → State → Outcome → State → Prop := va_Qv (fun _ : Unit => True) (fun _ => B) (nA0 a)
abbrev nQi (v : Int32) (B : State → Prop) (a : Nat → Nat) : Array Value → State → Outcome → State → Prop := va_Qi (fun r (_ : Unit) => r = v) (fun _ => B) (nA0 a)
/-- a loop that counts up to N: what holds at its head holds there again, one further -/
theorem nc_loop {p : Program} {l : Launch} {e : Env} {R : Room} {s : State} {m : MethodId} {args : Array Value} {below : List Frame} {meth : Method} {c : Code} {H0 : Heap} {locs0 : List Loc} {cells slots : Nat} {Q : State → Prop} {pc : Nat} {ls0 : Array Slot} (N : Nat) (I : Nat → Heap → List Loc → Array Slot → Prop) (h0 : I 0 H0 locs0 ls0)
    (step : ∀ (w : Nat) (H : Heap) (locs : List Loc) (ls : Array Slot), w ≤ N → I w H locs ls → (w < N → ∀ (H1 : Heap) (locs1 : List Loc) (ls1 : Array Slot), I (w + 1) H1 locs1 ls1 → W p l e R s m args below meth c H1 locs1 cells slots Q (F0 m pc ls1 [])) → W p l e R s m args below meth c H locs cells slots Q (F0 m pc ls [])) :
    W p l e R s m args below meth c H0 locs0 cells slots Q (F0 m pc ls0 []) := by
  have hh : ∀ (n w : Nat), w + n = N → ∀ (H : Heap) (locs : List Loc) (ls : Array Slot), I w H locs ls → W p l e R s m args below meth c H locs cells slots Q (F0 m pc ls []) := by
    intro n
    induction n with
    | zero => intro w hw H locs ls hI; exact step w H locs ls (by omega) hI (fun h => absurd h (by omega))
    | succ n ih => intro w hw H locs ls hI; exact step w H locs ls (by omega) hI (fun _ H1 locs1 ls1 h1 => ih (w + 1) (by omega) H1 locs1 ls1 h1)
  exact hh N 0 (by omega) H0 locs0 ls0 h0
theorem nHi {w N : Nat} (hN : N < 2 ^ 31) (hw : w ≤ N) (c : nI N ≤ nI w) : w = N := by
  have := (nI_leI hN (by omega)).mp c
  omega
theorem nLo {w N : Nat} (hN : N < 2 ^ 31) (hw : w ≤ N) (c : ¬ nI N ≤ nI w) : w < N := by
  rcases Nat.lt_or_ge w N with q | q
  · exact q
  · exact absurd (nI_le q (by omega)) c
