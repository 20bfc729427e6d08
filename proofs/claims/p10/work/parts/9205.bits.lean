theorem ts_nf {x : Bool} (h : ¬ x = false) : x = true := by cases x <;> first | rfl | exact absurd rfl h
theorem ts_nt {x : Bool} (h : ¬ x = true) : x = false := by cases x <;> first | rfl | exact absurd rfl h
theorem ts_bit {w : Int64} {s : UInt64} {j : Nat} (hj : j < 64) (hs : s.toNat = j) : ((w.toUInt64 >>> s).toInt64 &&& 1) = 0 ↔ w.toBitVec.getLsbD j = false := by
  have e : (w.toUInt64 >>> s).toInt64.toBitVec = w.toBitVec >>> j := by
    apply BitVec.eq_of_toNat_eq
    show (w.toUInt64 >>> s).toNat = _
    rw [UInt64.toNat_shiftRight, hs, Nat.mod_eq_of_lt hj, BitVec.toNat_ushiftRight]
    rfl
  rw [← Int64.toBitVec_inj, Int64.toBitVec_and, e]
  show w.toBitVec >>> j &&& 1#64 = 0#64 ↔ _
  constructor
  · intro h
    have t := congrArg (fun x => x.getLsbD 0) h
    simpa using t
  · intro h
    apply BitVec.eq_of_getLsbD_eq
    intro i hi
    cases i with
    | zero => simp [h]
    | succ i => simp
theorem wb_cu : ∀ k, k < 64 → ((nI k).toInt64.toUInt64 &&& Int64.toUInt64 63) = UInt64.ofNat k := by decide +kernel
/-- the mark of m -/
def bt4 (f : Nat → Int64) (m : Nat) : Bool := (f (m / 64 % 4)).toBitVec.getLsbD (m % 64)
theorem ix4 {m : Nat} (h : m < 2 ^ 31) : ((nI m >>> ((6 : Int32) &&& 31)) &&& 3).toNatClampNeg = m / 64 % 4 := by
  rw [pk_shrN h ((6 : Int32) &&& 31) 6 (by decide), pk_andN (n := m / 2 ^ 6) (by omega) 2 (by decide), nI_clamp (by omega)]
theorem low6 {m : Nat} (h : m < 2 ^ 31) : nI m &&& 63 = nI (m % 64) := pk_andN (by omega) 6 (by decide)
theorem lgc0 {x : Int64} : lg_cmp x 0 = 0 ↔ x = 0 := by
  unfold lg_cmp
  constructor
  · intro h
    by_cases h1 : x > 0
    · rw [if_pos h1] at h
      exact absurd h (by decide)
    · rw [if_neg h1] at h
      by_cases h2 : x = 0
      · exact h2
      · simp [h2] at h
  · intro h
    subst h
    decide
theorem has_bit {f : Nat → Int64} {m : Nat} : ((f (m / 64 % 4)).toUInt64 >>> ((nI (m % 64)).toInt64.toUInt64 &&& Int64.toUInt64 63)).toInt64 &&& 1 = 0 ↔ bt4 f m = false := ts_bit (by omega) (by
  rw [wb_cu _ (by omega)]
  exact UInt64.toNat_ofNat_of_lt (by show m % 64 < 2 ^ 64; omega))
theorem xc_has_eq {f : Nat → Int64} {m : Nat} (h : m < 2 ^ 31) : xc_has f (nI m) = (f, if bt4 f m = true then 1 else 0) := by
  unfold xc_has
  simp only [bd]
  rw [ix4 h, low6 h]
  by_cases hb : bt4 f m = true
  · rw [if_pos hb, if_neg]
    intro w
    rw [has_bit.mp (lgc0.mp w)] at hb
    cases hb
  · rw [if_neg hb, if_pos (lgc0.mpr (has_bit.mpr (ts_nt hb)))]
theorem shl1 : ∀ k, k < 64 → ((1 : Int64) <<< ((nI k).toInt64 &&& 63)).toBitVec = BitVec.twoPow 64 k := by decide +kernel
theorem bt4_put {f : Nat → Int64} {n m : Nat} (hn : n < 2 ^ 31) : bt4 (xc_put f (nI n)) m = if m % 256 = n % 256 then true else bt4 f m := by
  unfold xc_put
  simp only [bd]
  rw [ix4 hn, low6 hn]
  unfold bt4
  by_cases h1 : m / 64 % 4 = n / 64 % 4
  · rw [h1, updL_eq, Int64.toBitVec_or, shl1 _ (by omega), BitVec.getLsbD_or, BitVec.getLsbD_twoPow]
    by_cases h2 : m % 64 = n % 64
    · rw [if_pos (by omega), h2]
      simp
      omega
    · rw [if_neg (by omega)]
      have : ¬ n % 64 = m % 64 := fun e => h2 e.symm
      simp [this]
  · rw [updL_ne h1, if_neg (by omega)]
theorem bt4_drop {f : Nat → Int64} {n m : Nat} (hn : n < 2 ^ 31) : bt4 (xc_drop f (nI n)) m = if m % 256 = n % 256 then false else bt4 f m := by
  unfold xc_drop
  simp only [bd]
  rw [ix4 hn, low6 hn]
  unfold bt4
  have ha : (-1 : Int64).toBitVec = BitVec.allOnes 64 := by decide
  by_cases h1 : m / 64 % 4 = n / 64 % 4
  · rw [h1, updL_eq, Int64.toBitVec_and, Int64.toBitVec_xor, shl1 _ (by omega), ha, BitVec.getLsbD_and, BitVec.getLsbD_xor, BitVec.getLsbD_twoPow, BitVec.getLsbD_allOnes]
    by_cases h2 : m % 64 = n % 64
    · rw [if_pos (by omega), h2]
      have : n % 64 < 64 := by omega
      simp [this]
    · rw [if_neg (by omega)]
      have h3 : ¬ n % 64 = m % 64 := fun e => h2 e.symm
      have h4 : m % 64 < 64 := by omega
      simp [h3, h4]
  · rw [updL_ne h1, if_neg (by omega)]
theorem k4 : (0 : Int32).toNatClampNeg = 0 ∧ (1 : Int32).toNatClampNeg = 1 ∧ (2 : Int32).toNatClampNeg = 2 ∧ (3 : Int32).toNatClampNeg = 3 := by decide
theorem four {j : Nat} (h : j < 4) : j = 0 ∨ j = 1 ∨ j = 2 ∨ j = 3 := by omega
theorem bt4_clear {f : Nat → Int64} {m : Nat} : bt4 (xc_clear f) m = false := by
  unfold xc_clear bt4
  simp only [bd, k4]
  rcases four (j := m / 64 % 4) (by omega) with h | h | h | h <;> rw [h] <;> simp (decide := true) only [updL_eq, updL_ne, ne_eq, not_false_eq_true] <;> simp
theorem bt4_empty {f : Nat → Int64} {m : Nat} (h : (xc_isEmpty f).2 = 1) : bt4 f m = false := by
  unfold xc_isEmpty at h
  simp only [bd, k4] at h
  have hz : f 0 ||| f 1 ||| f 2 ||| f 3 = 0 := by
    by_cases hc : lg_cmp (f 0 ||| f 1 ||| f 2 ||| f 3) 0 = 0
    · exact lgc0.mp hc
    · rw [if_neg hc] at h
      exact absurd h (show ¬ (0 : Int32) = 1 by decide)
  have hb := congrArg (fun x : Int64 => x.toBitVec.getLsbD (m % 64)) hz
  simp only [Int64.toBitVec_or, BitVec.getLsbD_or] at hb
  have h0 : (0 : Int64).toBitVec.getLsbD (m % 64) = false := by simp
  rw [h0] at hb
  simp only [Bool.or_eq_false_iff] at hb
  unfold bt4
  rcases four (j := m / 64 % 4) (by omega) with e | e | e | e <;> rw [e]
  · exact hb.1.1.1
  · exact hb.1.1.2
  · exact hb.1.2
  · exact hb.2
