/-! ===== Int32 by its bits: bt x i ===== -/
def bt (x : Int32) (i : Nat) : Bool := x.toBitVec.getLsbD i
theorem b_ext {x y : Int32} (h : ∀ i, i < 32 → bt x i = bt y i) : x = y := Int32.toBitVec_inj.mp (BitVec.eq_of_getLsbD_eq (fun i hi => h i hi))
theorem b_or (x y : Int32) (i : Nat) : bt (x ||| y) i = (bt x i || bt y i) := by unfold bt; rw [Int32.toBitVec_or, BitVec.getLsbD_or]
theorem b_and (x y : Int32) (i : Nat) : bt (x &&& y) i = (bt x i && bt y i) := by unfold bt; rw [Int32.toBitVec_and, BitVec.getLsbD_and]
theorem b_xor (x y : Int32) (i : Nat) : bt (x ^^^ y) i = (bt x i ^^ bt y i) := by unfold bt; rw [Int32.toBitVec_xor, BitVec.getLsbD_xor]
theorem b_big {x : Int32} {i : Nat} (h : 32 ≤ i) : bt x i = false := BitVec.getLsbD_of_ge _ _ h
theorem b_255 (i : Nat) : bt 255 i = decide (i < 8) := by
  rcases Nat.lt_or_ge i 32 with h | h
  · exact (by decide +kernel : ∀ i, i < 32 → bt 255 i = decide (i < 8)) i h
  · rw [b_big h, decide_eq_false (by omega)]
theorem b_65535 (i : Nat) : bt 65535 i = decide (i < 16) := by
  rcases Nat.lt_or_ge i 32 with h | h
  · exact (by decide +kernel : ∀ i, i < 32 → bt 65535 i = decide (i < 16)) i h
  · rw [b_big h, decide_eq_false (by omega)]
theorem b_m1 : ∀ i, i < 32 → bt (-1) i = true := by decide +kernel
theorem b_0 (i : Nat) : bt 0 i = false := BitVec.getLsbD_zero
theorem s_l : ∀ n, n < 32 → ((nI n &&& 31).toBitVec.smod 32).toNat = n := by decide +kernel
theorem s_u : ∀ n, n < 32 → (((nI n).toUInt32 &&& Int32.toUInt32 31).toBitVec % 32).toNat = n := by decide +kernel
theorem b_shl (n : Nat) (hn : n < 32) (x : Int32) {i : Nat} (hi : i < 32) : bt (x <<< (nI n &&& 31)) i = (decide (n ≤ i) && bt x (i - n)) := by
  unfold bt
  rw [Int32.toBitVec_shiftLeft]
  show (x.toBitVec <<< ((nI n &&& 31).toBitVec.smod 32).toNat).getLsbD i = _
  rw [s_l n hn, BitVec.getLsbD_shiftLeft]
  rcases Nat.lt_or_ge i n with h | h
  · simp [h, Nat.not_le.mpr h]
  · simp [hi, h, Nat.not_lt.mpr h]
theorem b_ushr (n : Nat) (hn : n < 32) (x : Int32) (i : Nat) : bt ((x.toUInt32 >>> ((nI n).toUInt32 &&& Int32.toUInt32 31)).toInt32) i = bt x (n + i) := by
  show (x.toUInt32 >>> ((nI n).toUInt32 &&& Int32.toUInt32 31)).toBitVec.getLsbD i = x.toUInt32.toBitVec.getLsbD (n + i)
  rw [UInt32.toBitVec_shiftRight]
  show (x.toUInt32.toBitVec >>> (((nI n).toUInt32 &&& Int32.toUInt32 31).toBitVec % 32).toNat).getLsbD i = _
  rw [s_u n hn, BitVec.getLsbD_ushiftRight]
theorem b_sshr (n : Nat) (hn : n < 32) (x : Int32) {i : Nat} (hi : i < 32) : bt (x >>> (nI n &&& 31)) i = if n + i < 32 then bt x (n + i) else bt x 31 := by
  unfold bt
  rw [Int32.toBitVec_shiftRight]
  show (x.toBitVec.sshiftRight ((nI n &&& 31).toBitVec.smod 32).toNat).getLsbD i = _
  rw [s_l n hn, BitVec.getLsbD_sshiftRight, BitVec.msb_eq_getLsbD_last]
  simp [hi]
theorem b_shl8 (x : Int32) {i : Nat} (hi : i < 32) : bt (x <<< ((8 : Int32) &&& 31)) i = (decide (8 ≤ i) && bt x (i - 8)) := b_shl 8 (by omega) x hi
theorem b_shl16 (x : Int32) {i : Nat} (hi : i < 32) : bt (x <<< ((16 : Int32) &&& 31)) i = (decide (16 ≤ i) && bt x (i - 16)) := b_shl 16 (by omega) x hi
theorem b_shl24 (x : Int32) {i : Nat} (hi : i < 32) : bt (x <<< ((24 : Int32) &&& 31)) i = (decide (24 ≤ i) && bt x (i - 24)) := b_shl 24 (by omega) x hi
theorem b_sshr8 (x : Int32) {i : Nat} (hi : i < 32) : bt (x >>> ((8 : Int32) &&& 31)) i = if 8 + i < 32 then bt x (8 + i) else bt x 31 := b_sshr 8 (by omega) x hi
theorem nnot {b : Bool} (h : (!b) = false) : b = true := by
  cases b with
  | false => cases h
  | true => rfl
/-! ===== pure rows: truth values, tables that are filled, counts, the reckoning ===== -/
theorem b_n1 : ∀ i, i < 32 → bt (nI 1) i = decide (i = 0) := by decide +kernel
def nb (b : Bool) : Int32 := if b then nI 1 else nI 0
theorem nb_f {b : Bool} (h : nb b = 0) : b = false := by
  cases b with
  | false => rfl
  | true => exact absurd h (by decide +kernel)
theorem nb_t {b : Bool} (h : ¬ nb b = 0) : b = true := by
  cases b with
  | false => exact absurd (by decide +kernel) h
  | true => rfl
theorem nb_a1 (b : Bool) : nb b &&& 1 = nb b := by cases b <;> decide +kernel
theorem nb_z (b : Bool) : vp_nar .boolean (nb b) = nb b := nb_a1 b
theorem nb_n (b : Bool) : narrow .boolean (.int (nb b)) = .int (nb b) := by
  show Value.int (nb b &&& 1) = _
  rw [nb_a1]
theorem nb_inj {b c : Bool} (h : nb b = nb c) : b = c := by revert h; cases b <;> cases c <;> decide +kernel
/-- a table f whose n places from b on hold val 0, val 1 .. -/
def nF (f : Nat → Int32) (b n : Nat) (val : Nat → Int32) : Nat → Int32 := fun j => if b ≤ j ∧ j < b + n then val (j - b) else f j
theorem nF_0 {f : Nat → Int32} {b : Nat} {val : Nat → Int32} : nF f b 0 val = f := funext fun j => if_neg (by omega)
theorem nF_s {f : Nat → Int32} {b w : Nat} {val : Nat → Int32} {x : Int32} (hx : x = val w) : upd (nF f b w val) (b + w) x = nF f b (w + 1) val := by
  funext j
  show (if j = b + w then x else nF f b w val j) = nF f b (w + 1) val j
  unfold nF
  by_cases h1 : j = b + w
  · subst h1
    rw [if_pos rfl, if_pos (by omega), hx, show b + w - b = w by omega]
  · rw [if_neg h1]
    by_cases h2 : b ≤ j ∧ j < b + w
    · rw [if_pos h2, if_pos (by omega)]
    · rw [if_neg h2, if_neg (by omega)]
theorem nF_up {f : Nat → Int32} {b w : Nat} {val : Nat → Int32} {x : Int32} (h : b + w < 2 ^ 31) (hx : x = val w) : upd (nF f b w val) (nI (b + w)).toNatClampNeg x = nF f b (w + 1) val := by
  rw [nI_clamp h]; exact nF_s hx
theorem nF_up0 {f : Nat → Int32} {w : Nat} {val : Nat → Int32} {x : Int32} (h : w < 2 ^ 31) (hx : x = val w) : upd (nF f 0 w val) (nI w).toNatClampNeg x = nF f 0 (w + 1) val := by
  have := nF_up (f := f) (b := 0) (w := w) (val := val) (x := x) (by omega) hx
  rw [Nat.zero_add] at this
  exact this
theorem nF_r {f : Nat → Int32} {sl w : Nat} {val : Nat → Int32} {c : Nat} (h : w < 1024) : nF f (1024 * sl) w val (1024 * c + w) = f (1024 * c + w) := if_neg (by omega)
theorem nF_r0 {f : Nat → Int32} {w : Nat} {val : Nat → Int32} : nF f 0 w val w = f w := if_neg (by omega)
theorem nF_in {f : Nat → Int32} {b n j : Nat} {val : Nat → Int32} (h : j < n) : nF f b n val (b + j) = val j := by
  show (if b ≤ b + j ∧ b + j < b + n then val (b + j - b) else f (b + j)) = _
  rw [if_pos (by omega), show b + j - b = j by omega]
theorem nF_in0 {f : Nat → Int32} {n j : Nat} {val : Nat → Int32} (h : j < n) : nF f 0 n val j = val j := by
  have := nF_in (f := f) (b := 0) (val := val) h
  rw [Nat.zero_add] at this
  exact this
theorem nF_out {f : Nat → Int32} {b n j : Nat} {val : Nat → Int32} (h : ¬ (b ≤ j ∧ j < b + n)) : nF f b n val j = f j := if_neg h
/-- how many of the first n are so -/
def nN (q : Nat → Bool) : Nat → Nat
  | 0 => 0
  | n + 1 => nN q n + (if q n then 1 else 0)
theorem nN_s (q : Nat → Bool) (n : Nat) : nI (nN q n) + nb (q n) = nI (nN q (n + 1)) := by
  show nI (nN q n) + nb (q n) = nI (nN q n + (if q n then 1 else 0))
  cases q n
  · exact nI_add _ 0
  · exact nI_add _ 1
theorem nN_congr {q r : Nat → Bool} : ∀ n, (∀ j, j < n → q j = r j) → nN q n = nN r n
  | 0, _ => rfl
  | n + 1, h => by
    show nN q n + _ = nN r n + _
    rw [nN_congr n (fun j hj => h j (by omega)), h n (by omega)]
/-- are the first n all so -/
def nAll (q : Nat → Bool) : Nat → Bool
  | 0 => true
  | n + 1 => nAll q n && q n
theorem nAll_t {q : Nat → Bool} : ∀ n, (∀ j, j < n → q j = true) → nAll q n = true
  | 0, _ => rfl
  | n + 1, h => by
    show (nAll q n && q n) = true
    rw [nAll_t n (fun j hj => h j (by omega)), h n (by omega)]; rfl
theorem nAll_f {q : Nat → Bool} {w : Nat} (hq : q w = false) : ∀ n, w < n → nAll q n = false
  | 0, h => absurd h (by omega)
  | n + 1, h => by
    show (nAll q n && q n) = false
    by_cases e : w = n
    · subst e; rw [hq, Bool.and_false]
    · rw [nAll_f hq n (by omega), Bool.false_and]
theorem nAll_congr {q r : Nat → Bool} : ∀ n, (∀ j, j < n → q j = r j) → nAll q n = nAll r n
  | 0, _ => rfl
  | n + 1, h => by
    show (nAll q n && q n) = (nAll r n && r n)
    rw [nAll_congr n (fun j hj => h j (by omega)), h n (by omega)]
/-- the reckoning, before and behind the wrap -/
def nR (kd : Nat) (x y : Int32) : Int32 := match kd with
  | 0 => x + y
  | 1 => x - y
  | 2 => x * y
  | 3 => if y = 0 then nI 0 else x / y
  | 4 => if y = 0 then nI 0 else x - x / y * y
  | _ => -y
def nRs (kd : Nat) (x y : Int32) : Int32 := match kd with
  | 0 => (x + y).toInt16.toInt32
  | 1 => (x - y).toInt16.toInt32
  | 2 => (x * y).toInt16.toInt32
  | 3 => if y = 0 then nI 0 else (x / y).toInt16.toInt32
  | 4 => if y = 0 then nI 0 else x - x / y * y
  | _ => (-y).toInt16.toInt32
def nc (kd : Nat) (x y : Int32) : Bool := match kd with
  | 0 => decide (x = y)
  | 1 => !decide (x = y)
  | 2 => decide (x < y)
  | _ => decide (x ≤ y)
def nj (kd : Nat) (x y : Bool) : Bool := match kd with
  | 0 => x && y
  | 1 => x || y
  | 2 => x != y
  | _ => !x
theorem nsh_rng {x : Int32} (h : x.toInt16.toInt32 = x) : -32768 ≤ x.toInt ∧ x.toInt < 32768 := by
  have h1 := Int16.le_toInt x.toInt16
  have h2 := Int16.toInt_lt x.toInt16
  rw [← Int16.toInt_toInt32, h] at h1 h2
  omega
theorem nsh_of {z : Int32} (h1 : -32768 ≤ z.toInt) (h2 : z.toInt < 32768) : z.toInt16.toInt32 = z := by
  apply Int32.toInt_inj.mp
  rw [Int16.toInt_toInt32, Int32.toInt_toInt16]
  exact Int.bmod_eq_of_le (by omega) (by omega)
theorem nsh_nar (x : Int32) : (x.toInt16.toInt32).toInt16.toInt32 = x.toInt16.toInt32 := by
  have h1 := Int16.le_toInt x.toInt16
  have h2 := Int16.toInt_lt x.toInt16
  rw [← Int16.toInt_toInt32] at h1 h2
  exact nsh_of (by omega) (by omega)
theorem nsh_vn (x : Int32) : vp_nar .short x = x.toInt16.toInt32 := rfl
theorem nsh_rem {x y : Int32} (hx : x.toInt16.toInt32 = x) (hy : y.toInt16.toInt32 = y) (hz : ¬ y = 0) : (x - x / y * y).toInt16.toInt32 = x - x / y * y := by
  obtain ⟨x1, x2⟩ := nsh_rng hx
  obtain ⟨y1, y2⟩ := nsh_rng hy
  have hY : y.toInt ≠ 0 := fun h => hz (Int32.toInt_inj.mp (by rw [h]; rfl))
  have ha := Int.natAbs_tdiv_le_natAbs x.toInt y.toInt
  have hd : (x / y).toInt = x.toInt.tdiv y.toInt := by
    rw [Int32.toInt_div]
    exact Int.bmod_eq_of_le (by omega) (by omega)
  have ht := Int.natAbs_tmod x.toInt y.toInt
  have hlt : x.toInt.natAbs % y.toInt.natAbs < y.toInt.natAbs := Nat.mod_lt _ (by omega)
  have hle : x.toInt.natAbs % y.toInt.natAbs ≤ x.toInt.natAbs := Nat.mod_le _ _
  have hdef := Int.tmod_def x.toInt y.toInt
  have hm : (x / y * y).toInt = y.toInt * x.toInt.tdiv y.toInt := by
    rw [Int32.toInt_mul, hd, Int.mul_comm]
    exact Int.bmod_eq_of_le (by omega) (by omega)
  have hs : (x - x / y * y).toInt = x.toInt.tmod y.toInt := by
    rw [Int32.toInt_sub, hm, ← hdef]
    exact Int.bmod_eq_of_le (by omega) (by omega)
  exact nsh_of (by rw [hs]; omega) (by rw [hs]; omega)
theorem nR_s {kd : Nat} {x y : Int32} (hx : x.toInt16.toInt32 = x) (hy : y.toInt16.toInt32 = y) : (nR kd x y).toInt16.toInt32 = nRs kd x y := by
  match kd with
  | 0 => rfl
  | 1 => rfl
  | 2 => rfl
  | 3 =>
    show (if y = 0 then nI 0 else x / y).toInt16.toInt32 = if y = 0 then nI 0 else (x / y).toInt16.toInt32
    by_cases h : y = 0
    · rw [if_pos h, if_pos h]; rfl
    · rw [if_neg h, if_neg h]
  | 4 =>
    show (if y = 0 then nI 0 else x - x / y * y).toInt16.toInt32 = if y = 0 then nI 0 else x - x / y * y
    by_cases h : y = 0
    · rw [if_pos h]; rfl
    · rw [if_neg h]; exact nsh_rem hx hy h
  | _ + 5 => rfl
theorem nRs_fit {kd : Nat} {x y : Int32} (hx : x.toInt16.toInt32 = x) (hy : y.toInt16.toInt32 = y) : (nRs kd x y).toInt16.toInt32 = nRs kd x y := by
  rw [← nR_s hx hy, nsh_nar]
/-- one truth of a way's eight: read, set -/
theorem nBit {x : Int32} {t : Nat} (ht : t < 32) : ((x >>> (nI t &&& 31)) &&& nI 1 = 0) ↔ bt x t = false := by
  have h0 : bt ((x >>> (nI t &&& 31)) &&& nI 1) 0 = bt x t := by
    rw [b_and, b_sshr t ht x (by omega), b_n1 0 (by omega), if_pos (by omega)]
    simp
  constructor
  · intro h
    rw [← h0, h, b_0]
  · intro h
    apply b_ext
    intro i hi
    rw [b_0]
    by_cases e : i = 0
    · subst e; rw [h0]; exact h
    · rw [b_and, b_n1 i hi, decide_eq_false e, Bool.and_false]
theorem nBit_f {x : Int32} {t : Nat} (ht : t < 32) (h : (x >>> (nI t &&& 31)) &&& nI 1 = 0) : bt x t = false := (nBit ht).mp h
theorem nBit_t {x : Int32} {t : Nat} (ht : t < 32) (h : ¬ (x >>> (nI t &&& 31)) &&& nI 1 = 0) : bt x t = true := by
  cases e : bt x t with
  | true => rfl
  | false => exact absurd ((nBit ht).mpr e) h
def nS1 (x : Int32) (t : Nat) (b : Bool) : Int32 := if b then x ||| (nI 1 <<< (nI t &&& 31)) else x &&& ((nI 1 <<< (nI t &&& 31)) ^^^ (-1))
theorem nS1_bt {x : Int32} {t i : Nat} {b : Bool} (ht : t < 32) (hi : i < 32) : bt (nS1 x t b) i = if i = t then b else bt x i := by
  have hs : bt (nI 1 <<< (nI t &&& 31)) i = decide (i = t) := by
    rw [b_shl t ht (nI 1) hi, b_n1 (i - t) (by omega)]
    by_cases e : i = t
    · subst e; simp
    · rw [decide_eq_false e]
      by_cases e2 : t ≤ i
      · rw [decide_eq_true e2, Bool.true_and, decide_eq_false (by omega)]
      · rw [decide_eq_false e2, Bool.false_and]
  cases b with
  | true =>
    show bt (x ||| (nI 1 <<< (nI t &&& 31))) i = _
    rw [b_or, hs]
    by_cases e : i = t
    · rw [decide_eq_true e, if_pos e, Bool.or_true]
    · rw [decide_eq_false e, if_neg e, Bool.or_false]
  | false =>
    show bt (x &&& ((nI 1 <<< (nI t &&& 31)) ^^^ (-1))) i = _
    rw [b_and, b_xor, hs, b_m1 i hi]
    by_cases e : i = t
    · rw [decide_eq_true e, if_pos e]; simp
    · rw [decide_eq_false e, if_neg e]; simp
/-! ===== what the methods put into their tables, way by way: x's (nv, ny, nq), m's (mv) ===== -/
def nvK (v : Int32) : Nat → Int32 := fun _ => vp_nar .short v.toInt16.toInt32
def nvU (fi ct : Nat) (lo : Int32) : Nat → Int32 := fun w => vp_nar .short ((((nI w >>> (nI fi &&& 31)) &&& ((nI 1 <<< (nI ct &&& 31)) - nI 1)) + lo).toInt16.toInt32)
def nvR (fn : Nat → Int32) (kd p0 q0 : Nat) : Nat → Int32 := fun w => vp_nar .short ((nR kd (fn (1024 * p0 + w)) (fn (1024 * q0 + w))).toInt16.toInt32)
def nvH (fn ft : Nat → Int32) (tr p0 q0 : Nat) : Nat → Int32 := fun w => vp_nar .short (fn (1024 * (if bt (ft w) tr then p0 else q0) + w))
def nvT (ft : Nat → Int32) (tr : Nat) (q : Nat → Bool) : Nat → Int32 := fun w => nS1 (ft w) tr (q w)
def nyC (fn : Nat → Int32) (kd p0 q0 : Nat) : Nat → Bool := fun w => nc kd (fn (1024 * p0 + w)) (fn (1024 * q0 + w))
def nyJ (ft : Nat → Int32) (kd p0 q0 : Nat) : Nat → Bool := fun w => nj kd (bt (ft w) p0) (bt (ft w) q0)
def nqS (fn : Nat → Int32) (p0 q0 : Nat) : Nat → Bool := fun w => decide (fn (1024 * p0 + w) = fn (1024 * q0 + w))
def nqZ (fn : Nat → Int32) (sl : Nat) : Nat → Bool := fun w => decide (fn (1024 * sl + w) = 0)
def nqT (fn : Nat → Int32) : Nat → Bool := fun sl => !nAll (nqZ fn sl) 1024
def mvK (v : Int32) : Nat → Int32 := fun _ => v.toInt16.toInt32
def mvU (fi ct : Nat) (lo : Int32) : Nat → Int32 := fun w => (((nI w >>> (nI fi &&& 31)) &&& ((nI 1 <<< (nI ct &&& 31)) - nI 1)) + lo).toInt16.toInt32
def mvR (gn : Nat → Int32) (kd p0 q0 : Nat) : Nat → Int32 := fun w => nRs kd (gn (1024 * p0 + w)) (gn (1024 * q0 + w))
def mvH (gn : Nat → Int32) (tb : Nat → Nat → Bool) (tr p0 q0 : Nat) : Nat → Int32 := fun w => gn (1024 * (if tb tr w then p0 else q0) + w)
def mvB (q : Nat → Bool) : Nat → Int32 := fun w => nb (q w)
def myJ (tb : Nat → Nat → Bool) (kd p0 q0 : Nat) : Nat → Bool := fun w => nj kd (tb p0 w) (tb q0 w)
theorem nqT_t {fn : Nat → Int32} {sl : Nat} (h : nAll (nqZ fn sl) 1024 = false) : nqT fn sl = true := by unfold nqT; rw [h]; rfl
theorem nqT_f {fn : Nat → Int32} {sl : Nat} (h : nAll (nqZ fn sl) 1024 = true) : nqT fn sl = false := by unfold nqT; rw [h]; rfl
