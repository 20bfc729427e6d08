abbrev finC (F : Nat) (a : Nat → Nat → Int32) : Prop := a 60 F = 0 ∧ a 45 F = a 44 F ∧ ¬ a 43 F ≤ a 45 F
/-- nothing more may be sent: a closed window is watched -/
def finR (F : Nat) (m : Nat → Int32) (a : Nat → Nat → Int32) : XT := if finC F a then (m, setc a F (v_tim (m 4) (col a F)), 0) else (m, a, 0)
theorem va_setc {a : Nat → Nat → Int32} {F k : Nat} {v : Int32} : va_up a k (upd (a k) F v) = setc a F (upd (col a F) k v) := by
  have := up_setc (ma := a) (F := F) (k := k) (u := col a F) (v := v)
  rw [setc_col] at this
  exact this
theorem fin_eq {F : Nat} {m : Nat → Int32} {a : Nat → Nat → Int32} : (if a 60 F = 0 then (if a 45 F = a 44 F then (if a 43 F ≤ a 45 F then some (m, a, 0) else if a 61 F = -1 then some (m, va_up a 61 (upd (a 61) F (m 4 + a 49 F)), 0) else some (m, a, 0)) else some (m, a, 0)) else some (m, a, 0)) = some (finR F m a) := by
  unfold finR v_tim
  by_cases c1 : a 60 F = 0
  · rw [if_pos c1]
    by_cases c2 : a 45 F = a 44 F
    · rw [if_pos c2]
      by_cases c3 : a 43 F ≤ a 45 F
      · rw [if_pos c3, if_neg (show ¬ finC F a from fun w => w.2.2 c3)]
      · rw [if_neg c3, if_pos (show finC F a from ⟨c1, c2, c3⟩)]
        by_cases c4 : a 61 F = -1
        · rw [if_pos c4, if_pos (show col a F 61 = -1 from c4), va_setc]
          rfl
        · rw [if_neg c4, if_neg (show ¬ col a F 61 = -1 from c4), setc_col]
    · rw [if_neg c2, if_neg (show ¬ finC F a from fun w => c2 w.2.1)]
  · rw [if_neg c1, if_neg (show ¬ finC F a from fun w => c1 w.1)]
theorem sends_step {F fu : Nat} (hF : F < 4) {mi : Nat → Int32} {a : Nat → Nat → Int32} (hn : NB F a) (h45 : 0 ≤ (a 45 F).toInt) : x_sends_0 (nI F) (fu + 1) mi a = ax (MB mi a ∧ (0 ≤ (nI F).toInt ∧ (nI F).toInt < (mi 32).toInt)) (if nxR F a = -1 then some (finR F (oum F mi a) a) else if ¬ oul F a = -1 then bc (x_sendsAgain (nI F) (oul F a) (oum F mi a) a) (fun m a _ => x_sends_0 (nI F) fu m a) else bc (x_sendsOne (nI F) (a 45 F) (oum F mi a) a) (fun m a _ => x_sends_0 (nI F) fu m (va_up a 45 (upd (a 45) F (a 45 F + 1))))) := by
  rw [x_sends_0]
  congr 1
  rw [x_out_eq hF hn]
  simp only [bd_eq, bc_eq, nI_clamp (show F < 2 ^ 31 by omega), x_mayNext_c hF]
  simp only [fin_eq]
  have hne : ¬ a 45 F = -1 := fun w => by
    have := congrArg Int32.toInt w
    rw [show (-1 : Int32).toInt = -1 by decide] at this
    omega
  unfold nxR
  by_cases c1 : a 47 F / 1024 ≤ ouv F a
  · simp only [if_pos c1, ↓reduceIte]
  · simp only [if_neg c1]
    have fin2 : ∀ (x : Option XT), (if (if a 43 F ≤ a 45 F then (0 : Int32) else if a 44 F + a 60 F ≤ a 45 F then 0 else 1) = 0 then some (finR F (oum F mi a) a) else x) = (if (if a 43 F ≤ a 45 F then (-1 : Int32) else if a 44 F + a 60 F ≤ a 45 F then -1 else a 45 F) = -1 then some (finR F (oum F mi a) a) else x) := by
      intro x
      by_cases d1 : a 43 F ≤ a 45 F
      · simp only [if_pos d1, ↓reduceIte]
      · simp only [if_neg d1]
        by_cases d2 : a 44 F + a 60 F ≤ a 45 F
        · simp only [if_pos d2, ↓reduceIte]
        · simp only [if_neg d2, if_neg hne]
          simp (decide := true) only [↓reduceIte]
    have plain : oul F a = -1 → (if (if a 43 F ≤ a 45 F then (0 : Int32) else if a 44 F + a 60 F ≤ a 45 F then 0 else 1) = 0 then some (finR F (oum F mi a) a) else bc (x_sendsOne (nI F) (a 45 F) (oum F mi a) a) (fun m a _ => x_sends_0 (nI F) fu m (va_up a 45 (upd (a 45) F (a 45 F + 1))))) = (if (if ¬ oul F a = -1 then oul F a else if a 43 F ≤ a 45 F then (-1 : Int32) else if a 44 F + a 60 F ≤ a 45 F then -1 else a 45 F) = -1 then some (finR F (oum F mi a) a) else if ¬ oul F a = -1 then bc (x_sendsAgain (nI F) (oul F a) (oum F mi a) a) (fun m a _ => x_sends_0 (nI F) fu m a) else bc (x_sendsOne (nI F) (a 45 F) (oum F mi a) a) (fun m a _ => x_sends_0 (nI F) fu m (va_up a 45 (upd (a 45) F (a 45 F + 1))))) := by
      intro ho
      rw [fin2]
      simp only [if_neg (show ¬ ¬ oul F a = -1 from fun w => w ho)]
    by_cases c2 : a 42 F = 3
    · rw [if_pos c2]
      by_cases c3 : a 54 F = 0
      · rw [if_pos c3]
        exact plain (by unfold oul; rw [if_neg (fun w => w.2 c3)])
      · have hm : oum F mi a 73 = oul F a := by
          unfold oum
          rw [if_pos ⟨c2, c3⟩, upd_a]
        rw [if_neg c3, hm]
        by_cases c4 : oul F a = -1
        · rw [if_pos c4]
          exact plain c4
        · rw [if_neg c4]
          simp only [if_pos (show ¬ oul F a = -1 from c4), if_neg c4]
    · rw [if_neg c2]
      exact plain (by unfold oul; rw [if_neg (fun w => c2 w.1)])
