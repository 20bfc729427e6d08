/-- the time since the epoch, held between its bounds: in ints and in longs -/
theorem cg_d {now ep sr k : Int32} (h1 : 0 ≤ now.toInt) (h2 : now.toInt ≤ 100000000) (h3 : 0 ≤ ep.toInt) (h4 : ep.toInt ≤ now.toInt) (h5 : 0 ≤ sr.toInt) (h6 : sr.toInt ≤ 800000000) (h7 : 0 ≤ k.toInt) (h8 : k.toInt ≤ 16384) : (now - ep + sr / 8 - k).toInt64 = now.toInt64 - ep.toInt64 + (sr / 8).toInt64 - k.toInt64 := by
  have e8 : (sr / 8).toInt = sr.toInt / 8 := ti_divc rfl (by decide) (by decide) h5
  have a1 : (now - ep).toInt = now.toInt - ep.toInt := ti_sub rfl (by omega) (by omega)
  have a2 : (now - ep + sr / 8).toInt = now.toInt - ep.toInt + sr.toInt / 8 := by rw [ti_add rfl (by omega) (by omega), a1, e8]
  have a3 : (now - ep + sr / 8 - k).toInt = now.toInt - ep.toInt + sr.toInt / 8 - k.toInt := by rw [ti_sub rfl (by omega) (by omega), a2]
  apply Int64.toInt_inj.mp
  have b1 : (now.toInt64 - ep.toInt64).toInt = now.toInt - ep.toInt := by rw [tl_sub rfl (by simp only [Int32.toInt_toInt64]; omega) (by simp only [Int32.toInt_toInt64]; omega), Int32.toInt_toInt64, Int32.toInt_toInt64]
  have b2 : (now.toInt64 - ep.toInt64 + (sr / 8).toInt64).toInt = now.toInt - ep.toInt + sr.toInt / 8 := by rw [tl_add rfl (by rw [b1, Int32.toInt_toInt64, e8]; omega) (by rw [b1, Int32.toInt_toInt64, e8]; omega), b1, Int32.toInt_toInt64, e8]
  rw [Int32.toInt_toInt64, a3, tl_sub rfl (by rw [b2, Int32.toInt_toInt64]; omega) (by rw [b2, Int32.toInt_toInt64]; omega), b2, Int32.toInt_toInt64]
theorem i64_lt {a b : Int32} : a.toInt64 < b.toInt64 ↔ a < b := by
  rw [Int64.lt_iff_toInt_lt, Int32.lt_iff_toInt_lt, Int32.toInt_toInt64, Int32.toInt_toInt64]
theorem cg_hold {x : Int32} : (if ((-100000) : Int32) < (if x < 100000 then x else 100000) then (if x < 100000 then x else 100000) else ((-100000) : Int32)).toInt64 = (if (0 : Int32) ≤ lg_cmp x.toInt64 ((-100000) : Int64) then (if lg_cmp x.toInt64 (100000 : Int64) ≤ 0 then x.toInt64 else (100000 : Int64)) else ((-100000) : Int64)) := by
  have c1 : ((-100000) : Int64) = ((-100000) : Int32).toInt64 := by decide
  have c2 : (100000 : Int64) = (100000 : Int32).toInt64 := by decide
  have q1 : (0 : Int32) ≤ lg_cmp x.toInt64 ((-100000) : Int64) ↔ ¬ x < -100000 := by
    rw [lg_cmp_ge, c1, Int64.le_iff_toInt_le, Int32.lt_iff_toInt_lt, Int32.toInt_toInt64, Int32.toInt_toInt64]
    omega
  have q2 : lg_cmp x.toInt64 (100000 : Int64) ≤ 0 ↔ ¬ 100000 < x := by
    rw [lgc_le0, c2, i64_lt]
  have b1 : (-100000 : Int32).toInt = -100000 := by decide
  have b2 : (100000 : Int32).toInt = 100000 := by decide
  by_cases h1 : x < -100000
  · rw [if_neg (fun w => q1.mp w h1)]
    have a1 := Int32.lt_iff_toInt_lt.mp h1
    have h2 : x < 100000 := Int32.lt_iff_toInt_lt.mpr (by omega)
    have n2 : ¬ (-100000 : Int32) < x := fun w => by have := Int32.lt_iff_toInt_lt.mp w; omega
    rw [if_pos h2, if_neg n2]
    exact c1.symm
  · rw [if_pos (q1.mpr h1)]
    have a1 : ¬ x.toInt < (-100000 : Int32).toInt := fun w => h1 (Int32.lt_iff_toInt_lt.mpr w)
    by_cases h2 : 100000 < x
    · rw [if_neg (fun w => q2.mp w h2)]
      have a2 := Int32.lt_iff_toInt_lt.mp h2
      have n2 : ¬ x < 100000 := fun w => by have := Int32.lt_iff_toInt_lt.mp w; omega
      rw [if_neg n2, if_pos (show (-100000 : Int32) < 100000 by decide)]
      exact c2.symm
    · rw [if_pos (q2.mpr h2)]
      have a2 : ¬ (100000 : Int32).toInt < x.toInt := fun w => h2 (Int32.lt_iff_toInt_lt.mpr w)
      have e1 : (if x < 100000 then x else 100000) = x := by
        by_cases h3 : x < 100000
        · rw [if_pos h3]
        · rw [if_neg h3]
          apply Int32.toInt_inj.mp
          have a3 : ¬ x.toInt < (100000 : Int32).toInt := fun w => h3 (Int32.lt_iff_toInt_lt.mpr w)
          omega
      rw [e1]
      by_cases h4 : (-100000 : Int32) < x
      · rw [if_pos h4]
      · rw [if_neg h4]
        congr 1
        apply Int32.toInt_inj.mp
        have a4 : ¬ (-100000 : Int32).toInt < x.toInt := fun w => h4 (Int32.lt_iff_toInt_lt.mpr w)
        omega
