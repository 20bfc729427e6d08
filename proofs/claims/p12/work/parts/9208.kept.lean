theorem bt4_mod {f : Nat → Int64} {m n : Nat} (h : m % 256 = n % 256) : bt4 f m = bt4 f n := by
  unfold bt4
  rw [show m / 64 % 4 = n / 64 % 4 by omega, show m % 64 = n % 64 by omega]
/-- what is kept: the class's marks from nx on, the reference's row A -/
def KQ (kf : Nat → Int64) (nx : Nat) (A : Nat → Int32) : Prop := (∀ i, i < 200 → (bt4 kf (nx + i) = true ↔ ¬ A i = 0)) ∧ ∀ i, 200 ≤ i → i < 256 → bt4 kf (nx + i) = false
theorem KQ_shift {kf kf2 : Nat → Int64} {nx : Nat} {A A2 : Nat → Int32} (h : KQ kf nx A) (h2 : ∀ m, bt4 kf2 m = if m % 256 = nx % 256 then false else bt4 kf m) (hA : ∀ i, i < 199 → A2 i = A (i + 1)) (hA9 : A2 199 = 0) : KQ kf2 (nx + 1) A2 := by
  obtain ⟨h3, h4⟩ := h
  refine ⟨fun i hi => ?_, fun i hi hi2 => ?_⟩
  · rw [h2, if_neg (by omega), show nx + 1 + i = nx + (i + 1) by omega]
    by_cases e : i = 199
    · rw [e, h4 (199 + 1) (by omega) (by omega), hA9]
      simp
    · rw [hA i (by omega)]
      exact h3 (i + 1) (by omega)
  · rw [h2]
    by_cases e : i = 255
    · rw [if_pos (by omega)]
    · rw [if_neg (by omega), show nx + 1 + i = nx + (i + 1) by omega]
      exact h4 (i + 1) (by omega) (by omega)
theorem KQ_put {kf : Nat → Int64} {nx s : Nat} {A A2 : Nat → Int32} (h : KQ kf nx A) (hs : nx ≤ s) (hs2 : s < nx + 200) (hb : s < 2 ^ 31) (h1 : ¬ A2 (s - nx) = 0) (hA : ∀ i, i ≠ s - nx → A2 i = A i) : KQ (xc_put kf (nI s)) nx A2 := by
  obtain ⟨h3, h4⟩ := h
  refine ⟨fun i hi => ?_, fun i hi hi2 => ?_⟩
  · rw [bt4_put hb]
    by_cases e : i = s - nx
    · rw [if_pos (by omega), e]
      exact ⟨fun _ => h1, fun _ => rfl⟩
    · rw [if_neg (by omega), hA i e]
      exact h3 i hi
  · rw [bt4_put hb, if_neg (by omega)]
    exact h4 i hi hi2
/-- how many are kept -/
def cntK (A : Nat → Int32) : Nat → Nat
  | 0 => 0
  | k + 1 => cntK A k + (if A k = 0 then 0 else 1)
theorem cntK_le (A : Nat → Int32) : ∀ k, cntK A k ≤ k
  | 0 => Nat.le_refl _
  | k + 1 => by
    have := cntK_le A k
    unfold cntK
    split <;> omega
theorem cntK_congr {A B : Nat → Int32} : ∀ {k : Nat}, (∀ i, i < k → A i = B i) → cntK A k = cntK B k
  | 0, _ => rfl
  | k + 1, h => by
    unfold cntK
    rw [cntK_congr (fun i hi => h i (by omega)), h k (by omega)]
theorem cntK_zero {A : Nat → Int32} : ∀ {k : Nat}, cntK A k = 0 → ∀ i, i < k → A i = 0
  | 0, _, i, hi => absurd hi (Nat.not_lt_zero _)
  | k + 1, h, i, hi => by
    unfold cntK at h
    by_cases e : A k = 0
    · rw [if_pos e] at h
      by_cases e2 : i = k
      · rw [e2]; exact e
      · exact cntK_zero (by omega) i (by omega)
    · rw [if_neg e] at h
      omega
/-- a shift by one -/
theorem cntK_shift {A B : Nat → Int32} : ∀ {k : Nat}, (∀ i, i < k → B i = A (i + 1)) → cntK A (k + 1) = cntK B k + (if A 0 = 0 then 0 else 1)
  | 0, _ => by unfold cntK; unfold cntK; omega
  | k + 1, h => by
    have ih := cntK_shift (A := A) (B := B) (k := k) (fun i hi => h i (by omega))
    have e : cntK A (k + 1 + 1) = cntK A (k + 1) + (if A (k + 1) = 0 then 0 else 1) := rfl
    have e2 : cntK B (k + 1) = cntK B k + (if B k = 0 then 0 else 1) := rfl
    rw [e, e2, ih, h k (by omega)]
    omega
theorem cntK_put {A B : Nat → Int32} {j : Nat} (h0 : A j = 0) (h1 : ¬ B j = 0) (h : ∀ i, i ≠ j → B i = A i) : ∀ {k : Nat}, j < k → cntK B k = cntK A k + 1
  | 0, hj => absurd hj (Nat.not_lt_zero _)
  | k + 1, hj => by
    have e : cntK A (k + 1) = cntK A k + (if A k = 0 then 0 else 1) := rfl
    have e2 : cntK B (k + 1) = cntK B k + (if B k = 0 then 0 else 1) := rfl
    by_cases hk : j = k
    · subst hk
      rw [e, e2, if_pos h0, if_neg h1, cntK_congr (fun i hi => h i (by omega))]
    · rw [e, e2, cntK_put h0 h1 h (show j < k by omega), h k (fun w => hk w.symm)]
      omega
theorem cntK_mono {A : Nat → Int32} {k : Nat} : ∀ {m : Nat}, k ≤ m → cntK A k ≤ cntK A m
  | 0, h => by rw [show k = 0 by omega]; exact Nat.le_refl _
  | m + 1, h => by
    by_cases e : k = m + 1
    · rw [e]; exact Nat.le_refl _
    · have := cntK_mono (A := A) (show k ≤ m by omega)
      have e2 : cntK A (m + 1) = cntK A m + (if A m = 0 then 0 else 1) := rfl
      rw [e2]
      omega
/-- the reference's count -/
theorem mul200 {F : Nat} (h : F < 4) : (200 : Int32) * nI F = nI (200 * F) := by
  have : F = 0 ∨ F = 1 ∨ F = 2 ∨ F = 3 := by omega
  rcases this with e | e | e | e <;> rw [e] <;> decide
theorem km_go {F : Nat} (hF : F < 4) {mi : Nat → Int32} {ma : Nat → Nat → Int32} : ∀ (fu i c : Nat), i ≤ 200 → 200 < fu + i → c ≤ i → x_keptMany_4 (nI F) fu mi ma (nI c) (nI i) = (mi, ma, nI (c + (cntK (fun j => ma 36 (200 * F + j)) 200 - cntK (fun j => ma 36 (200 * F + j)) i)))
  | 0, i, c, h1, h2, h3 => by omega
  | fu + 1, i, c, h1, h2, h3 => by
    have ei : (nI i).toInt = i := nI_toInt (by omega)
    rw [x_keptMany_4]
    simp only [bd]
    by_cases h : i = 200
    · subst h
      rw [if_pos (by decide), Nat.sub_self, Nat.add_zero]
    · have hn : ¬ (200 : Int32) ≤ nI i := by
        intro w
        have := Int32.le_iff_toInt_le.mp w
        rw [ei, show (200 : Int32).toInt = 200 by decide] at this
        omega
      rw [if_neg hn, mul200 hF, nI_add, nI_clamp (show 200 * F + i < 2 ^ 31 by omega)]
      have e : cntK (fun j => ma 36 (200 * F + j)) (i + 1) = cntK (fun j => ma 36 (200 * F + j)) i + (if ma 36 (200 * F + i) = 0 then 0 else 1) := rfl
      have hm : cntK (fun j => ma 36 (200 * F + j)) (i + 1) ≤ cntK (fun j => ma 36 (200 * F + j)) 200 := cntK_mono (by omega)
      by_cases hc : ma 36 (200 * F + i) = 0
      · rw [if_pos hc, show nI c + (0 : Int32) = nI c by simp, nI_1, km_go hF fu (i + 1) c (by omega) (by omega) (by omega), e, if_pos hc, Nat.add_zero]
      · rw [if_neg hc, show (1 : Int32) = nI 1 by decide, nI_add, nI_add, km_go hF fu (i + 1) (c + 1) (by omega) (by omega) (by omega), e, if_neg hc]
        rw [e, if_neg hc] at hm
        congr 3
        omega
theorem x_keptMany_eq {F : Nat} (hF : F < 4) {mi : Nat → Int32} {ma : Nat → Nat → Int32} : x_keptMany (nI F) mi ma = (mi, ma, nI (cntK (fun j => ma 36 (200 * F + j)) 200)) := by
  unfold x_keptMany
  have := km_go hF (mi := mi) (ma := ma) 201 0 0 (by omega) (by omega) (by omega)
  rw [show nI 0 = (0 : Int32) by decide] at this
  rw [this]
  rw [show cntK (fun j => ma 36 (200 * F + j)) 0 = 0 from rfl, Nat.sub_zero, Nat.zero_add]
