/-! ===== x and m hold the same ===== -/
def nRel (fn ft gn gt : Nat → Int32) : Prop := (∀ j : Nat, j < 8192 → fn j = gn j ∧ (fn j).toInt16.toInt32 = fn j) ∧ ∀ t w : Nat, t < 8 → w < 1024 → gt (1024 * t + w) = nb (bt (ft w) t)
theorem nRel_0 : nRel (fun _ => 0) (fun _ => 0) (fun _ => 0) (fun _ => 0) := ⟨fun _ _ => ⟨rfl, (by decide +kernel : (0 : Int32).toInt16.toInt32 = 0)⟩, fun t w _ _ => by rw [b_0]; rfl⟩
theorem nRel_fill {fn ft gn gt : Nat → Int32} {sl : Nat} {u v : Nat → Int32} (h : nRel fn ft gn gt) (hsl : sl < 8) (huv : ∀ w : Nat, w < 1024 → u w = v w ∧ (u w).toInt16.toInt32 = u w) : nRel (nF fn (1024 * sl) 1024 u) ft (nF gn (1024 * sl) 1024 v) gt := by
  refine ⟨fun j hj => ?_, h.2⟩
  by_cases hin : 1024 * sl ≤ j ∧ j < 1024 * sl + 1024
  · obtain ⟨w, hw, rfl⟩ : ∃ w : Nat, w < 1024 ∧ j = 1024 * sl + w := ⟨j - 1024 * sl, by omega, by omega⟩
    rw [nF_in hw, nF_in hw]
    exact huv w hw
  · rw [nF_out hin, nF_out hin]
    exact h.1 j hj
theorem nRel_truth {fn ft gn gt : Nat → Int32} {tr : Nat} {u v : Nat → Bool} (h : nRel fn ft gn gt) (htr : tr < 8) (huv : ∀ w : Nat, w < 1024 → u w = v w) : nRel fn (nF ft 0 1024 (nvT ft tr u)) gn (nF gt (1024 * tr) 1024 (mvB v)) := by
  refine ⟨h.1, fun t w ht hw => ?_⟩
  rw [nF_in0 hw]
  show _ = nb (bt (nS1 (ft w) tr (u w)) t)
  rw [nS1_bt (by omega) (by omega)]
  by_cases e : t = tr
  · subst e
    rw [if_pos rfl, nF_in hw, huv w hw]; rfl
  · rw [if_neg e, nF_out (by omega)]
    exact h.2 t w ht hw
theorem nRel_at {fn ft gn gt : Nat → Int32} (h : nRel fn ft gn gt) {p0 w : Nat} (hp : p0 < 8) (hw : w < 1024) : fn (1024 * p0 + w) = gn (1024 * p0 + w) ∧ (fn (1024 * p0 + w)).toInt16.toInt32 = fn (1024 * p0 + w) := h.1 _ (by omega)
theorem nK_eq {v : Int32} {w : Nat} : nvK v w = mvK v w ∧ (nvK v w).toInt16.toInt32 = nvK v w := ⟨nsh_nar v, nsh_nar _⟩
theorem nU_eq {fi ct : Nat} {lo : Int32} {w : Nat} : nvU fi ct lo w = mvU fi ct lo w ∧ (nvU fi ct lo w).toInt16.toInt32 = nvU fi ct lo w := ⟨nsh_nar _, nsh_nar _⟩
theorem nR_eq {fn ft gn gt : Nat → Int32} (h : nRel fn ft gn gt) {kd p0 q0 w : Nat} (hp : p0 < 8) (hq : q0 < 8) (hw : w < 1024) : nvR fn kd p0 q0 w = mvR gn kd p0 q0 w ∧ (nvR fn kd p0 q0 w).toInt16.toInt32 = nvR fn kd p0 q0 w := by
  obtain ⟨e1, f1⟩ := nRel_at h hp hw
  obtain ⟨e2, f2⟩ := nRel_at h hq hw
  refine ⟨?_, nsh_nar _⟩
  show ((nR kd (fn (1024 * p0 + w)) (fn (1024 * q0 + w))).toInt16.toInt32).toInt16.toInt32 = nRs kd (gn (1024 * p0 + w)) (gn (1024 * q0 + w))
  rw [nsh_nar, nR_s f1 f2, e1, e2]
theorem nH_eq {fn ft gn gt : Nat → Int32} (h : nRel fn ft gn gt) {tr p0 q0 w : Nat} (hp : p0 < 8) (hq : q0 < 8) (hw : w < 1024) : nvH fn ft tr p0 q0 w = mvH gn (fun t w => bt (ft w) t) tr p0 q0 w ∧ (nvH fn ft tr p0 q0 w).toInt16.toInt32 = nvH fn ft tr p0 q0 w := by
  refine ⟨?_, nsh_nar _⟩
  have hc : (if bt (ft w) tr then p0 else q0) < 8 := by
    by_cases e : bt (ft w) tr = true
    · rw [if_pos e]; exact hp
    · rw [if_neg e]; exact hq
  obtain ⟨e1, f1⟩ := nRel_at h hc hw
  show (fn (1024 * (if bt (ft w) tr then p0 else q0) + w)).toInt16.toInt32 = gn (1024 * (if bt (ft w) tr then p0 else q0) + w)
  rw [f1, e1]
theorem nC_eq {fn ft gn gt : Nat → Int32} (h : nRel fn ft gn gt) {kd p0 q0 : Nat} (hp : p0 < 8) (hq : q0 < 8) : ∀ w : Nat, w < 1024 → nyC fn kd p0 q0 w = nyC gn kd p0 q0 w := by
  intro w hw
  show nc kd (fn (1024 * p0 + w)) (fn (1024 * q0 + w)) = nc kd (gn (1024 * p0 + w)) (gn (1024 * q0 + w))
  rw [(nRel_at h hp hw).1, (nRel_at h hq hw).1]
theorem nJ_eq {ft : Nat → Int32} {kd p0 q0 : Nat} : ∀ w : Nat, w < 1024 → nyJ ft kd p0 q0 w = myJ (fun t w => bt (ft w) t) kd p0 q0 w := fun _ _ => rfl
theorem nS_eq {fn ft gn gt : Nat → Int32} (h : nRel fn ft gn gt) {p0 q0 : Nat} (hp : p0 < 8) (hq : q0 < 8) : ∀ w : Nat, w < 1024 → nqS fn p0 q0 w = nqS gn p0 q0 w := by
  intro w hw
  show decide (fn (1024 * p0 + w) = fn (1024 * q0 + w)) = decide (gn (1024 * p0 + w) = gn (1024 * q0 + w))
  rw [(nRel_at h hp hw).1, (nRel_at h hq hw).1]
theorem nT_eq {fn ft gn gt : Nat → Int32} (h : nRel fn ft gn gt) : ∀ sl : Nat, sl < 8 → nqT fn sl = nqT gn sl := by
  intro sl hsl
  show (!nAll (nqZ fn sl) 1024) = !nAll (nqZ gn sl) 1024
  rw [nAll_congr 1024 (fun w hw => show nqZ fn sl w = nqZ gn sl w by
    show decide (fn (1024 * sl + w) = 0) = decide (gn (1024 * sl + w) = 0)
    rw [(nRel_at h hsl hw).1])]
theorem lg_cmp_self (x : Int64) : lg_cmp x x = nI 0 := by
  unfold lg_cmp
  rw [if_neg (fun h => absurd h (Int64.lt_irrefl)), if_pos rfl]; rfl
theorem nA0_ge {a : Nat → Nat} {z : Nat} (hge : ∀ i : Nat, i < 8 → z ≤ a i) : ∀ q : Nat, nA0 a q → z ≤ q := fun q ⟨i, hi, e⟩ => by rw [e]; exact hge i hi
abbrev nLoc (b : Nat) (a : Nat → Nat) (i : Nat) : List (Nat × Value) := [(4, .int (nI i)), (0, .ref b), (1, .ref (a 0)), (2, .ref (a 3)), (3, .ref (a 7))]
