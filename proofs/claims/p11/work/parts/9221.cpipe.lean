theorem lst_ex {B R : Nat → Int32} {U L : Nat} {bg : Int32} : ∀ (d k : Nat), k + d = L → ∃ x, lst B R U L bg k x = lst B R U L bg L (-1)
  | 0, k, h => ⟨-1, by rw [show k = L by omega]⟩
  | d + 1, k, h => by
    obtain ⟨x, hx⟩ := lst_ex (B := B) (R := R) (U := U) (L := L) (bg := bg) d (k + 1) (by omega)
    exact ⟨_, hx⟩
/-- the class's boards against the reference's rows -/
def CB (B R : Nat → Int32) (U L : Nat) (bg : Int32) (bv : Nat → Int32) (f g : Nat → Int64) : Prop :=
  (∀ i, i < L → (bt4 f (U + i) = true ↔ ¬ B i = 0)) ∧ (∀ i, i < L → (bt4 g (U + i) = true ↔ ¬ R i = 0)) ∧ (∀ i, i < L → B i = 0 → (nI (U + i) < bv 2 ↔ 3 ≤ mk B (i + 1) L)) ∧ bv 3 = bg ∧ ∀ i, i < L → nI (U + i) = bg → B i = 0
theorem has01 {f : Nat → Int64} {m : Nat} (h : m < 2 ^ 31) : xc_has f (nI m) = (f, if bt4 f m = true then 1 else 0) := xc_has_eq h
theorem isLost_eq {B R : Nat → Int32} {U L : Nat} {bg : Int32} {bv : Nat → Int32} {f g : Nat → Int64} (h : CB B R U L bg bv f g) (hU : U < 2 ^ 30) (hL : L ≤ 200) {i : Nat} (hi : i < L) : xc_isLost bv f g (nI (U + i)) = (bv, f, g, if B i = 0 ∧ lostB B U L bg i then 1 else 0) := by
  obtain ⟨hf, hg, hl, h3, hb⟩ := h
  unfold xc_isLost
  simp only [bd_eq]
  rw [has01 (show U + i < 2 ^ 31 by omega), h3]
  by_cases e1 : nI (U + i) = bg
  · rw [if_pos e1, if_pos ⟨hb i hi e1, Or.inl e1⟩]
  · rw [if_neg e1]
    by_cases e2 : B i = 0
    · have q : ¬ bt4 f (U + i) = true := fun w => (hf i hi).mp w e2
      by_cases e3 : bv 2 ≤ nI (U + i)
      · rw [if_pos e3, if_neg]
        rintro ⟨_, w | w⟩
        · exact e1 w
        · exact Int32.not_lt.mpr e3 ((hl i hi e2).mpr w)
      · rw [if_neg e3, if_pos (show B i = 0 ∧ lostB B U L bg i from ⟨e2, Or.inr ((hl i hi e2).mp (Int32.not_le.mp e3))⟩)]
        simp (decide := true) only [if_neg q, ↓reduceIte]
    · have q : bt4 f (U + i) = true := (hf i hi).mpr e2
      simp (decide := true) only [if_pos q, ↓reduceIte]
      rw [if_neg (fun w : B i = 0 ∧ _ => e2 w.1)]
      split <;> rfl
theorem nIle {a b : Nat} (ha : a < 2 ^ 31) (hb : b < 2 ^ 31) : nI a ≤ nI b ↔ a ≤ b := by
  rw [Int32.le_iff_toInt_le, nI_toInt ha, nI_toInt hb]
  omega
theorem leastLost_go {B R : Nat → Int32} {U L : Nat} {bg n1 n2 i1 : Int32} {bv : Nat → Int32} {f g : Nat → Int64} (h : CB B R U L bg bv f g) (hU : U < 2 ^ 30) (hL : L ≤ 200) : ∀ (d k fu : Nat), k + d = L → d < fu → ∃ y, xc_leastLost_2 n1 n2 fu bv f g i1 (nI (U + L)) (nI (U + k)) = (bv, f, g, y) ∧ lst B R U L bg k y = lst B R U L bg L (-1)
  | 0, k, 0, h1, h2 => by omega
  | 0, k, fu + 1, h1, h2 => by
    rw [xc_leastLost_2, show k = L by omega, if_pos (Int32.le_refl _)]
    exact ⟨-1, rfl, rfl⟩
  | d + 1, k, 0, h1, h2 => by omega
  | d + 1, k, fu + 1, h1, h2 => by
    have hk : k < L := by omega
    obtain ⟨y, hy, hl⟩ := leastLost_go (n1 := n1) (n2 := n2) (i1 := i1) h hU hL d (k + 1) fu (by omega) (by omega)
    rw [xc_leastLost_2, if_neg (fun w => by have := (nIle (by omega) (by omega)).mp w; omega)]
    simp only [bd_eq, xc_leastLost_28]
    rw [isLost_eq h hU hL hk, has01 (show U + k < 2 ^ 31 by omega)]
    have e1 : nI (U + k) + 1 = nI (U + (k + 1)) := by rw [nI_1]; rfl
    have hs : lst B R U L bg (k + 1) y = lst B R U L bg k (if hitB B R U L bg k then nI (U + k) else y) := rfl
    by_cases c1 : B k = 0 ∧ lostB B U L bg k
    · simp (decide := true) only [if_pos c1, ↓reduceIte]
      by_cases c2 : bt4 g (U + k) = true
      · simp (decide := true) only [if_pos c2, ↓reduceIte]
        rw [e1, hy]
        refine ⟨y, rfl, ?_⟩
        rw [hs, if_neg (fun w => (h.2.1 k hk).mp c2 w.2.2)] at hl
        exact hl
      · simp (decide := true) only [if_neg c2, ↓reduceIte]
        have hr : R k = 0 := by
          by_cases q : R k = 0
          · exact q
          · exact absurd ((h.2.1 k hk).mpr q) c2
        refine ⟨nI (U + k), rfl, ?_⟩
        rw [hs, if_pos ⟨c1.1, c1.2, hr⟩] at hl
        exact hl
    · simp (decide := true) only [if_neg c1, ↓reduceIte]
      rw [e1, hy]
      refine ⟨y, rfl, ?_⟩
      rw [hs, if_neg (fun w => c1 ⟨w.1, w.2.1⟩)] at hl
      exact hl
theorem fuelD {U L : Nat} (hU : U < 2 ^ 30) (hL : L ≤ 200) : ((nI (U + L)).toInt - (nI U).toInt).toNat + 1 = L + 1 := by
  rw [nI_toInt (by omega), nI_toInt (by omega)]
  omega
theorem leastLost_eq {B R : Nat → Int32} {U L : Nat} {bg : Int32} {bv : Nat → Int32} {f g : Nat → Int64} (h : CB B R U L bg bv f g) (hU : U < 2 ^ 30) (hL : L ≤ 200) : xc_leastLost bv f g (nI U) (nI (U + L)) = (bv, f, g, lst B R U L bg L (-1)) := by
  unfold xc_leastLost
  rw [fuelD hU hL]
  obtain ⟨y, hy, hl⟩ := leastLost_go (n1 := nI U) (n2 := nI (U + L)) (i1 := nI U) h hU hL L 0 (L + 1) (by omega) (by omega)
  rw [show nI (U + 0) = nI U from rfl] at hy
  rw [hy, ← hl]
  rfl
theorem cpipe_go {B R : Nat → Int32} {U L : Nat} {bg nx n1 n2 n3 i1 : Int32} {bv : Nat → Int32} {f g : Nat → Int64} (h : CB B R U L bg bv f g) (hU : U < 2 ^ 30) (hL : L ≤ 200) : ∀ (d k fu : Nat), k + d = L → d < fu → xc_pipe_6 n1 n2 n3 fu bv f g i1 nx (nI (U + L)) (nI (psum B R U L bg nx k)) (nI (U + k)) = (bv, f, g, nI (psum B R U L bg nx L))
  | 0, k, 0, h1, h2 => by omega
  | 0, k, fu + 1, h1, h2 => by
    rw [xc_pipe_6, show k = L by omega, if_pos (Int32.le_refl _)]
  | d + 1, k, 0, h1, h2 => by omega
  | d + 1, k, fu + 1, h1, h2 => by
    have hk : k < L := by omega
    have ih := cpipe_go (nx := nx) (n1 := n1) (n2 := n2) (n3 := n3) (i1 := i1) h hU hL d (k + 1) fu (by omega) (by omega)
    rw [show psum B R U L bg nx (k + 1) = psum B R U L bg nx k + pw B R U L bg nx k from rfl] at ih
    rw [xc_pipe_6, if_neg (fun w => by have := (nIle (by omega) (by omega)).mp w; omega)]
    simp only [bd_eq, xc_pipe_42, xc_pipe_69]
    simp only [has01 (show U + k < 2 ^ 31 by omega), isLost_eq h hU hL hk]
    have e1 : nI (U + k) + 1 = nI (U + (k + 1)) := by rw [nI_1]; rfl
    rw [e1]
    generalize psum B R U L bg nx k = s at ih
    have g1 := h.2.1 k hk
    by_cases hb : B k = 0
    · have q : ¬ bt4 f (U + k) = true := fun w => (h.1 k hk).mp w hb
      have hw : pw B R U L bg nx k = (if lostB B U L bg k then 0 else if nI (U + k) < nx then 1 else 0) + (if R k = 0 then 0 else 1) := if_pos hb
      rw [hw] at ih
      clear hw
      by_cases hr : R k = 0
      · have c2 : ¬ bt4 g (U + k) = true := fun w => g1.mp w hr
        by_cases hn : nx ≤ nI (U + k)
        · have hm : ¬ nI (U + k) < nx := Int32.not_lt.mpr hn
          by_cases hl : lostB B U L bg k
          · have hx : B k = 0 ∧ lostB B U L bg k := ⟨hb, hl⟩
            simp (decide := true) only [if_pos hr, if_neg hm, if_pos hl, ↓reduceIte, Nat.add_zero, Nat.zero_add, Nat.reduceAdd] at ih
            simp (decide := true) only [if_neg q, if_neg c2, if_pos hn, if_pos hx, ↓reduceIte, nI_1]
            exact ih
          · have hx : ¬ (B k = 0 ∧ lostB B U L bg k) := fun w => hl w.2
            simp (decide := true) only [if_pos hr, if_neg hm, if_neg hl, ↓reduceIte, Nat.add_zero, Nat.zero_add, Nat.reduceAdd] at ih
            simp (decide := true) only [if_neg q, if_neg c2, if_pos hn, if_neg hx, ↓reduceIte, nI_1]
            exact ih
        · have hm : nI (U + k) < nx := Int32.not_le.mp hn
          by_cases hl : lostB B U L bg k
          · have hx : B k = 0 ∧ lostB B U L bg k := ⟨hb, hl⟩
            simp (decide := true) only [if_pos hr, if_pos hm, if_pos hl, ↓reduceIte, Nat.add_zero, Nat.zero_add, Nat.reduceAdd] at ih
            simp (decide := true) only [if_neg q, if_neg c2, if_neg hn, if_pos hx, ↓reduceIte, nI_1]
            exact ih
          · have hx : ¬ (B k = 0 ∧ lostB B U L bg k) := fun w => hl w.2
            simp (decide := true) only [if_pos hr, if_pos hm, if_neg hl, ↓reduceIte, Nat.add_zero, Nat.zero_add, Nat.reduceAdd] at ih
            simp (decide := true) only [if_neg q, if_neg c2, if_neg hn, if_neg hx, ↓reduceIte, nI_1]
            exact ih
      · have c2 : bt4 g (U + k) = true := g1.mpr hr
        by_cases hn : nx ≤ nI (U + k)
        · have hm : ¬ nI (U + k) < nx := Int32.not_lt.mpr hn
          by_cases hl : lostB B U L bg k
          · have hx : B k = 0 ∧ lostB B U L bg k := ⟨hb, hl⟩
            simp (decide := true) only [if_neg hr, if_neg hm, if_pos hl, ↓reduceIte, Nat.add_zero, Nat.zero_add, Nat.reduceAdd] at ih
            simp (decide := true) only [if_neg q, if_pos c2, if_pos hn, if_pos hx, ↓reduceIte, nI_1]
            exact ih
          · have hx : ¬ (B k = 0 ∧ lostB B U L bg k) := fun w => hl w.2
            simp (decide := true) only [if_neg hr, if_neg hm, if_neg hl, ↓reduceIte, Nat.add_zero, Nat.zero_add, Nat.reduceAdd] at ih
            simp (decide := true) only [if_neg q, if_pos c2, if_pos hn, if_neg hx, ↓reduceIte, nI_1]
            exact ih
        · have hm : nI (U + k) < nx := Int32.not_le.mp hn
          by_cases hl : lostB B U L bg k
          · have hx : B k = 0 ∧ lostB B U L bg k := ⟨hb, hl⟩
            simp (decide := true) only [if_neg hr, if_pos hm, if_pos hl, ↓reduceIte, Nat.add_zero, Nat.zero_add, Nat.reduceAdd] at ih
            simp (decide := true) only [if_neg q, if_pos c2, if_neg hn, if_pos hx, ↓reduceIte, nI_1]
            exact ih
          · have hx : ¬ (B k = 0 ∧ lostB B U L bg k) := fun w => hl w.2
            simp (decide := true) only [if_neg hr, if_pos hm, if_neg hl, ↓reduceIte, Nat.add_zero, Nat.zero_add, Nat.reduceAdd] at ih
            simp (decide := true) only [if_neg q, if_pos c2, if_neg hn, if_neg hx, ↓reduceIte, nI_1]
            exact ih
    · have q : bt4 f (U + k) = true := (h.1 k hk).mpr hb
      have hw : pw B R U L bg nx k = 0 := if_neg hb
      rw [hw] at ih
      clear hw
      have hx : ¬ (B k = 0 ∧ lostB B U L bg k) := fun w => hb w.1
      by_cases c2 : bt4 g (U + k) = true
      · by_cases hn : nx ≤ nI (U + k)
        · simp (decide := true) only [if_pos q, if_pos c2, if_pos hn, ↓reduceIte]
          exact ih
        · simp (decide := true) only [if_pos q, if_pos c2, if_neg hn, ↓reduceIte]
          exact ih
      · by_cases hn : nx ≤ nI (U + k)
        · simp (decide := true) only [if_pos q, if_neg c2, if_pos hn, ↓reduceIte]
          exact ih
        · simp (decide := true) only [if_pos q, if_neg c2, if_neg hn, ↓reduceIte]
          exact ih
theorem cpipe_eq {B R : Nat → Int32} {U L : Nat} {bg nx : Int32} {bv : Nat → Int32} {f g : Nat → Int64} (h : CB B R U L bg bv f g) (hU : U < 2 ^ 30) (hL : L ≤ 200) : xc_pipe bv f g (nI U) nx (nI (U + L)) = (bv, f, g, nI (psum B R U L bg nx L)) := by
  unfold xc_pipe
  rw [fuelD hU hL]
  have := cpipe_go (nx := nx) (n1 := nI U) (n2 := nx) (n3 := nI (U + L)) (i1 := nI U) h hU hL L 0 (L + 1) (by omega) (by omega)
  rw [show nI (U + 0) = nI U from rfl, show nI (psum B R U L bg nx 0) = (0 : Int32) from rfl] at this
  exact this
