def rowf (r : R4) : Nat → Int64 := fun w => if w = 0 then r.1 else if w = 1 then r.2.1 else if w = 2 then r.2.2.1 else r.2.2.2
theorem rowf_rw4 {f : Nat → Int64} {m : Nat} : bt4 (rowf (rw4 f)) m = bt4 f m := by
  have h : ∀ w, w < 4 → rowf (rw4 f) w = f w := by
    intro w hw
    have : w = 0 ∨ w = 1 ∨ w = 2 ∨ w = 3 := by omega
    rcases this with e | e | e | e <;> rw [e] <;> rfl
  unfold bt4
  rw [h _ (by omega)]
theorem readP {f : Nat → Int64} {r : R4} {m : Nat} : bt4 (xc_readFromP f r) m = bt4 (rowf r) m := by
  have h : ∀ w, w < 4 → xc_readFromP f r w = rowf r w := by
    intro w hw
    unfold xc_readFromP
    simp only [bd_eq]
    have : w = 0 ∨ w = 1 ∨ w = 2 ∨ w = 3 := by omega
    rcases this with e | e | e | e <;> rw [e] <;> rfl
  unfold bt4
  rw [h _ (by omega)]
theorem mk_mono {B : Nat → Int32} {L k j : Nat} (h : k ≤ j) : mk B j L ≤ mk B k L := by
  induction L with
  | zero => exact Nat.le_refl _
  | succ n ih =>
    rw [mk, mk]
    by_cases hb : B n = 0
    · rw [if_neg (fun w => w.2 hb), if_neg (fun w => w.2 hb)]
      exact ih
    · by_cases e : j ≤ n
      · rw [if_pos ⟨e, hb⟩, if_pos ⟨by omega, hb⟩]
        omega
      · rw [if_neg (fun w => e w.1)]
        split <;> omega
theorem mk_zero {B : Nat → Int32} {k : Nat} : ∀ {n : Nat}, (∀ i, i < n → B i = 0) → mk B k n = 0
  | 0, _ => rfl
  | n + 1, h => by
    rw [mk, mk_zero (fun i hi => h i (by omega)), if_neg (fun w => w.2 (h n (by omega)))]
/-- the line below which what has not come is lost -/
def LBq (B : Nat → Int32) (U L : Nat) (y : Int32) : Prop := ∀ i, i < L → B i = 0 → (nI (U + i) < y ↔ 3 ≤ mk B (i + 1) L)
theorem nn0 {n : Nat} (h : n < 2 ^ 31) : ¬ nI n < 0 := by
  intro w
  have := Int32.lt_iff_toInt_lt.mp w
  rw [nI_toInt h, show (0 : Int32).toInt = 0 by decide] at this
  omega
theorem isEmpty_cases {f : Nat → Int64} : xc_isEmpty f = (f, 1) ∨ xc_isEmpty f = (f, 0) := by
  unfold xc_isEmpty
  simp only [bd_eq]
  split
  · exact Or.inl rfl
  · exact Or.inr rfl
theorem learn_go {B : Nat → Int32} {U L : Nat} {n1 n2 i3 : Int32} {row : R4} {bv : Nat → Int32} {f g : Nat → Int64} (hf : ∀ i, i < L → (bt4 f (U + i) = true ↔ ¬ B i = 0)) (h0 : B 0 = 0) (hU : U < 2 ^ 30) (hL : L ≤ 200) : ∀ (k fu : Nat), k < L → k < fu → mk B (k + 1) L < 3 → ∃ y, xc_blearnP_21 row n1 n2 fu (upd bv 2 0) f g (nI U) i3 (nI (mk B (k + 1) L)) (nI (U + k)) = (upd bv 2 y, f, g) ∧ LBq B U L y ∧ y.toInt ≤ U + L
  | k, 0, h1, h2, h3 => by omega
  | 0, fu + 1, h1, h2, h3 => by
    rw [xc_blearnP_21, if_pos (show nI (U + 0) ≤ nI U from Int32.le_refl _)]
    refine ⟨0, rfl, fun i hi hb => ⟨fun w => absurd w (nn0 (by omega)), fun w => ?_⟩, by rw [show (0 : Int32).toInt = 0 by decide]; omega⟩
    have := mk_mono (B := B) (L := L) (show 0 + 1 ≤ i + 1 by omega)
    omega
  | k + 1, fu + 1, h1, h2, h3 => by
    rw [xc_blearnP_21, if_neg (fun w => by have := (nIle (by omega) (by omega)).mp w; omega), if_neg (fun w => by
      have := Int32.le_iff_toInt_le.mp w
      rw [nI_toInt (by omega), show (3 : Int32).toInt = 3 by decide] at this
      omega)]
    simp only [bd_eq, xc_blearnP_74, xc_blearnP_71]
    rcases isEmpty_cases (f := f) with he | he
    · rw [he]
      have hE : ∀ m, bt4 f m = false := fun m => bt4_empty (by rw [he])
      simp only []
      rw [if_neg (show ¬ (1 : Int32) = 0 by decide)]
      have hz : ∀ i, i < L → B i = 0 := by
        intro i hi
        by_cases q : B i = 0
        · exact q
        · have := (hf i hi).mpr q
          rw [hE] at this
          cases this
      refine ⟨0, rfl, fun i hi hb => ⟨fun w => absurd w (nn0 (by omega)), fun w => ?_⟩, by rw [show (0 : Int32).toInt = 0 by decide]; omega⟩
      rw [mk_zero hz] at w
      omega
    · rw [he]
      simp only [↓reduceIte]
      rw [has01 (show U + (k + 1) < 2 ^ 31 by omega)]
      have e1 : nI (U + (k + 1)) + (-1) = nI (U + k) := nI_m1
      have sm : mk B (k + 1) L = mk B (k + 1 + 1) L + (if B (k + 1) = 0 then 0 else 1) := mk_step h1
      by_cases hb : B (k + 1) = 0
      · have q : ¬ bt4 f (U + (k + 1)) = true := fun w => (hf _ h1).mp w hb
        simp (decide := true) only [if_neg q, ↓reduceIte]
        rw [e1]
        rw [if_pos hb] at sm
        rw [show mk B (k + 1 + 1) L = mk B (k + 1) L from sm.symm]
        exact learn_go hf h0 hU hL k fu (by omega) (by omega) (by omega)
      · have q : bt4 f (U + (k + 1)) = true := (hf _ h1).mpr hb
        rw [if_neg hb] at sm
        simp (decide := true) only [if_pos q, ↓reduceIte]
        rw [e1, nI_1, ← sm, upd_upd, upd_upd]
        by_cases h3' : mk B (k + 1) L = 3
        · rw [h3', if_pos (show nI 3 = 3 by decide)]
          have hend : ∀ (fu : Nat) (x : Nat → Int32), xc_blearnP_21 row n1 n2 fu x f g (nI U) i3 (nI 3) (nI (U + k)) = (x, f, g) := by
            intro fu x
            cases fu with
            | zero => rw [xc_blearnP_21]
            | succ fu =>
              rw [xc_blearnP_21]
              by_cases w : nI (U + k) ≤ nI U
              · rw [if_pos w]
              · rw [if_neg w, if_pos (show (3 : Int32) ≤ nI 3 by decide)]
          rw [hend]
          refine ⟨_, rfl, fun i hi hbi => ?_, by rw [nI_toInt (by omega)]; omega⟩
          rw [Int32.lt_iff_toInt_lt, nI_toInt (by omega), nI_toInt (by omega)]
          refine ⟨fun w => ?_, fun w => ?_⟩
          · have := mk_mono (B := B) (L := L) (show i + 1 ≤ k + 1 by omega)
            omega
          · rcases Nat.lt_or_ge i (k + 1) with z | z
            · omega
            · exfalso
              have hne : i ≠ k + 1 := fun e => hb (e ▸ hbi)
              have := mk_mono (B := B) (L := L) (show k + 1 + 1 ≤ i + 1 by omega)
              omega
        · have hne : ¬ nI (mk B (k + 1) L) = 3 := by
            intro w
            have := congrArg Int32.toInt w
            rw [nI_toInt (by omega), show (3 : Int32).toInt = 3 by decide] at this
            omega
          rw [if_neg hne]
          exact learn_go hf h0 hU hL k fu (by omega) (by omega) (by omega)
theorem learn_eq {B : Nat → Int32} {U L : Nat} {row : R4} {bv : Nat → Int32} {f g : Nat → Int64} (hf : ∀ i, i < L → (bt4 (rowf row) (U + i) = true ↔ ¬ B i = 0)) (h0 : B 0 = 0) (hU : U < 2 ^ 30) (hL : L ≤ 200) : ∃ y f2, xc_blearnP bv f g (nI U) (nI (U + L)) row = (upd bv 2 y, f2, g) ∧ LBq B U L y ∧ y.toInt ≤ U + L ∧ ∀ m, bt4 f2 m = bt4 (rowf row) m := by
  unfold xc_blearnP
  simp only [bd_eq]
  have hm : ∀ m, bt4 (xc_readFromP f row) m = bt4 (rowf row) m := fun m => readP
  generalize xc_readFromP f row = f2 at hm
  have e : nI (U + L) - 1 = nI (U + L) + (-1) := Int32.sub_eq_add_neg _ _
  rw [e]
  cases L with
  | zero =>
    have et : (nI (U + 0) + (-1)).toInt = (U : Int) - 1 := by
      have q : (nI (U + 0)).toInt = (U : Int) := nI_toInt (by omega)
      rw [ti_add (x := nI (U + 0) + (-1)) rfl (by rw [q, show (-1 : Int32).toInt = -1 by decide]; omega) (by rw [q, show (-1 : Int32).toInt = -1 by decide]; omega), q, show (-1 : Int32).toInt = -1 by decide]
      rfl
    rw [et, nI_toInt (show U < 2 ^ 31 by omega), show ((U : Int) - 1 - U).toNat + 1 = 0 + 1 by omega, xc_blearnP_21, if_pos (Int32.le_iff_toInt_le.mpr (by rw [et, nI_toInt (by omega)]; omega))]
    exact ⟨0, f2, rfl, fun i hi => absurd hi (Nat.not_lt_zero _), by rw [show (0 : Int32).toInt = 0 by decide]; omega, hm⟩
  | succ k =>
    rw [show U + (k + 1) = (U + k) + 1 from rfl, nI_m1, nI_toInt (show U + k < 2 ^ 31 by omega), nI_toInt (show U < 2 ^ 31 by omega), show (((U + k : Nat) : Int) - U).toNat + 1 = k + 1 by omega]
    have := learn_go (n1 := nI U) (n2 := nI (U + k + 1)) (i3 := nI (U + k + 1)) (row := row) (bv := bv) (g := g) (fun i hi => by rw [hm]; exact hf i hi) h0 hU hL k (k + 1) (by omega) (by omega) (by rw [mk_top (Nat.le_refl _)]; omega)
    rw [mk_top (Nat.le_refl _), show nI 0 = (0 : Int32) by decide] at this
    obtain ⟨y, h1, h2, h3⟩ := this
    exact ⟨y, f2, h1, h2, h3, hm⟩
