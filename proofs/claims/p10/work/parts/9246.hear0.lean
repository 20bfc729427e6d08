def b01 (b : Bool) : Int32 := if b = true then 1 else 0
theorem b01_z {b : Bool} : b01 b = 0 ∨ b01 b = 1 := by
  unfold b01
  by_cases h : b = true
  · rw [if_pos h]; exact Or.inr rfl
  · rw [if_neg h]; exact Or.inl rfl
theorem b01_iff {b : Bool} : b = true ↔ ¬ b01 b = 0 := by
  unfold b01
  by_cases h : b = true
  · rw [if_pos h]; exact ⟨fun _ => by decide, fun _ => h⟩
  · rw [if_neg h]; exact ⟨fun w => absurd w h, fun w => absurd rfl w⟩
/-- marks of what lies behind are dropped -/
theorem bgoOn_go {n1 n2 i1 : Int32} {bv : Nat → Int32} {f : Nat → Int64} {V : Nat} (hV : V < 2 ^ 31) : ∀ (fu k : Nat) (g : Nat → Int64), k ≤ V → V < fu + k → ∃ g2, xc_bgoOn_2 n1 n2 fu bv f g i1 (nI V) (nI k) = (bv, f, g2) ∧ ∀ m, bt4 g2 m = true ↔ (bt4 g m = true ∧ ∀ j, k ≤ j → j < V → m % 256 ≠ j % 256)
  | 0, k, g, h1, h2 => by omega
  | fu + 1, k, g, h1, h2 => by
    rw [xc_bgoOn_2]
    by_cases c : k = V
    · subst c
      rw [if_pos (Int32.le_refl _)]
      exact ⟨g, rfl, fun m => ⟨fun w => ⟨w, fun j h1 h2 => by omega⟩, fun w => w.1⟩⟩
    · rw [if_neg (fun w => by have := (nIle hV (by omega)).mp w; omega)]
      simp only [bd_eq]
      rw [nI_1]
      obtain ⟨g2, x1, x2⟩ := bgoOn_go (n1 := n1) (n2 := n2) (i1 := i1) (bv := bv) (f := f) hV fu (k + 1) (xc_drop g (nI k)) (by omega) (by omega)
      refine ⟨g2, x1, fun m => ?_⟩
      rw [x2 m, bt4_drop (by omega)]
      by_cases e : m % 256 = k % 256
      · rw [if_pos e]
        exact ⟨(fun w => by cases w.1), fun w => absurd e (w.2 k (by omega) (by omega))⟩
      · rw [if_neg e]
        refine ⟨fun w => ⟨w.1, fun j h3 h4 => ?_⟩, fun w => ⟨w.1, fun j h3 h4 => w.2 j (by omega) h4⟩⟩
        by_cases z : j = k
        · rw [z]; exact e
        · exact w.2 j (by omega) h4
theorem bgoOn_eq {bv : Nat → Int32} {f g : Nat → Int64} {U V : Nat} (hUV : U ≤ V) (hV : V < 2 ^ 31) : ∃ g2, xc_bgoOn bv f g (nI U) (nI V) = (bv, f, g2) ∧ ∀ m, bt4 g2 m = true ↔ (bt4 g m = true ∧ ∀ j, U ≤ j → j < V → m % 256 ≠ j % 256) := by
  unfold xc_bgoOn
  rw [nI_toInt hV, nI_toInt (show U < 2 ^ 31 by omega)]
  exact bgoOn_go hV _ U g hUV (by omega)
theorem RSq_drop {F : Nat} {g g2 : Nat → Int64} {ma a : Nat → Nat → Int32} (h : RSq F g ma) (e56 : a 56 F = ma 56 F) (e46 : a 46 F = ma 46 F) (e72 : a 72 = ma 72) (h0 : 0 ≤ (ma 44 F).toInt) (hUV : (ma 44 F).toInt ≤ (a 44 F).toInt) (hVH : (a 44 F).toInt ≤ (ma 46 F).toInt) (hH : (ma 46 F).toInt ≤ (ma 44 F).toInt + 200) (hg : ∀ m, bt4 g2 m = true ↔ (bt4 g m = true ∧ ∀ j, (ma 44 F).toInt.toNat ≤ j → j < (a 44 F).toInt.toNat → m % 256 ≠ j % 256)) : RSq F g2 a := by
  obtain ⟨h1, h2⟩ := h
  refine ⟨fun m q1 q2 => ?_, fun m q1 q2 => ?_⟩
  · rw [e46, e72, hg m]
    rcases Int.lt_or_le (m : Int) ((ma 44 F).toInt + 256) with w | w
    · rw [h1 m (by omega) w]
      exact ⟨fun z => z.1, fun z => ⟨z, fun j h3 h4 => by omega⟩⟩
    · refine ⟨fun z => ?_, fun z => ?_⟩
      · exfalso
        exact z.2 (m - 256) (by omega) (by omega) (by omega)
      · exfalso
        omega
  · rw [e72]
    rw [e46] at q1
    rw [e56] at q2
    exact h2 m q1 q2
/-- an ack's board goes over into the sender's row -/
def cpy (h s : Nat → Int32) (lo so i n : Nat) : Nat → Int32 := fun j => if lo + i ≤ j ∧ j < lo + n then s (so + (j - lo)) else h j
theorem cpy_step {h s : Nat → Int32} {lo so i n : Nat} (hi : i < n) : cpy (upd h (lo + i) (s (so + i))) s lo so (i + 1) n = cpy h s lo so i n := by
  funext j
  unfold cpy
  by_cases e : j = lo + i
  · rw [if_neg (show ¬ (lo + (i + 1) ≤ j ∧ j < lo + n) from fun w => by omega), if_pos (show lo + i ≤ j ∧ j < lo + n by omega), e, upd_a, show lo + i - lo = i by omega]
  · rw [upd_b e]
    by_cases c : lo + (i + 1) ≤ j ∧ j < lo + n
    · rw [if_pos c, if_pos (show lo + i ≤ j ∧ j < lo + n by omega)]
    · rw [if_neg c, if_neg (show ¬ (lo + i ≤ j ∧ j < lo + n) from fun w => c (by omega))]
theorem cpy_end {h s : Nat → Int32} {lo so n : Nat} : cpy h s lo so n n = h := by
  funext j
  unfold cpy
  exact if_neg (fun w => by omega)
noncomputable def h200 (F : Nat) (kk : Int32) (mi : Nat → Int32) (ma : Nat → Nat → Int32) (i3 i4 i5 : Int32) : Option XT := if i5 ≤ 0 then x_heard_224 (nI F) kk mi ma i3 i4 i5 else if ma 45 F ≤ ma 44 F then x_heard_224 (nI F) kk mi (va_up ma 61 (upd (ma 61) F (-1))) i3 i4 i5 else x_heard_224 (nI F) kk mi (va_up ma 61 (upd (ma 61) F (mi 4 + ma 49 F))) i3 i4 i5
theorem mul200b {K : Nat} (h : K < 6000) : (200 : Int32) * nI K = nI (200 * K) := by
  apply Int32.toInt_inj.mp
  have e : (nI K).toInt = K := nI_toInt (by omega)
  rw [ti_mulc (x := 200 * nI K) (c := 200) (k := 200) rfl (by decide) (by omega) (by omega), e, nI_toInt (by omega)]
  omega
theorem h143 {F K : Nat} (hF : F < 4) (hK : K < 6000) {mi : Nat → Int32} {i3 i4 i5 : Int32} : ∀ (fu i : Nat) (ma : Nat → Nat → Int32), i ≤ 200 → 200 < fu + i → (∀ i, i < 200 → ma 25 (200 * K + i) = 0 ∨ ma 25 (200 * K + i) = 1) → x_heard_143 (nI F) (nI K) fu mi ma i3 i4 i5 (nI i) = h200 F (nI K) mi (va_up ma 71 (cpy (ma 71) (ma 25) (200 * F) (200 * K) i 200)) i3 i4 i5
  | 0, i, ma, h1, h2, h3 => by omega
  | fu + 1, i, ma, h1, h2, h3 => by
    rw [x_heard_143]
    simp only [bd_eq]
    by_cases c : i = 200
    · subst c
      rw [if_pos (show (200 : Int32) ≤ nI 200 by decide), cpy_end, va_id]
      unfold h200
      simp only [nI_clamp (show F < 2 ^ 31 by omega)]
    · rw [if_neg (fun w => by
        have := Int32.le_iff_toInt_le.mp w
        rw [nI_toInt (by omega), show (200 : Int32).toInt = 200 by decide] at this
        omega), mul200 hF, mul200b hK, nI_add, nI_add, nI_clamp (show 200 * F + i < 2 ^ 31 by omega), nI_clamp (show 200 * K + i < 2 ^ 31 by omega), nI_1, nar01 (h3 i (by omega)), h143 hF hK fu (i + 1) _ (by omega) (by omega) (by rw [va_up_ne _ _ (by decide)]; exact h3)]
      rw [va_up_self, va_va, va_up_ne _ _ (show (25 : Nat) ≠ 71 by decide), cpy_step (by omega)]
