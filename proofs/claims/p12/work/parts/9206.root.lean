theorem lgc_gt {x y : Int64} : 0 < lg_cmp x y ↔ y < x := by
  unfold lg_cmp
  by_cases h1 : x > y
  · rw [if_pos h1]
    exact ⟨fun _ => h1, fun _ => by decide⟩
  · rw [if_neg h1]
    constructor
    · intro w
      exfalso
      revert w
      split <;> decide
    · intro w
      exact absurd w h1
theorem lgc_le0 {x y : Int64} : lg_cmp x y ≤ 0 ↔ ¬ y < x := by
  rw [← lgc_gt]
  exact Int32.not_lt.symm
theorem cubeN_lt {a : Nat} (h : a ≤ 16384) : a * a * a < 2 ^ 63 := by
  have h1 : a * a ≤ 16384 * 16384 := Nat.mul_le_mul h h
  have h2 : a * a * a ≤ 16384 * 16384 * 16384 := Nat.mul_le_mul h1 h
  omega
theorem cube_mono {a b : Nat} (h : a ≤ b) : a * a * a ≤ b * b * b := Nat.mul_le_mul (Nat.mul_le_mul h h) h
theorem cube_uniq {a b N : Nat} (h1 : a * a * a ≤ N) (h2 : N < (a + 1) * (a + 1) * (a + 1)) (h3 : b * b * b ≤ N) (h4 : N < (b + 1) * (b + 1) * (b + 1)) : a = b := by
  rcases Nat.lt_trichotomy a b with w | w | w
  · have := cube_mono (show a + 1 ≤ b by omega)
    omega
  · exact w
  · have := cube_mono (show b + 1 ≤ a by omega)
    omega
theorem root_step {n1 : Int64} {fu N r b : Nat} (hb : 0 < b) (hr : r + b ≤ 16384) (hN : N < 2 ^ 63) : xc_root_7 n1 (fu + 1) (lN N) (lN r) (lN b) = if (r + b) * (r + b) * (r + b) ≤ N then xc_root_7 n1 fu (lN N) (lN (r + b)) (lN (b / 2)) else xc_root_7 n1 fu (lN N) (lN r) (lN (b / 2)) := by
  rw [xc_root_7]
  unfold xc_root_36
  simp only [bd, lN_add, lN_mul]
  rw [show (2 : Int64) = lN 2 by decide, pk_lDiv (by omega) (by decide) (by decide)]
  have h0 : ¬ lg_cmp (lN b) 0 ≤ 0 := by
    rw [lgc_le0, show (0 : Int64) = lN 0 by decide, pk_lLT (by decide) (by omega)]
    omega
  rw [if_neg h0]
  have hc := cubeN_lt hr
  by_cases h1 : (r + b) * (r + b) * (r + b) ≤ N
  · rw [if_pos h1, if_neg]
    rw [lgc_gt, pk_lLT hN hc]
    omega
  · rw [if_neg h1, if_pos]
    rw [lgc_gt, pk_lLT hN hc]
    omega
theorem root_end {n1 : Int64} {fu N r : Nat} : xc_root_7 n1 (fu + 1) (lN N) (lN r) (lN 0) = nI r := by
  rw [xc_root_7]
  simp only [bd]
  rw [if_pos (by decide), lN_i]
theorem root_go {n1 : Int64} {N : Nat} (hN : N < 2 ^ 63) : ∀ (e fu r : Nat), e + 2 ≤ fu → r + 2 * 2 ^ e ≤ 16384 → r * r * r ≤ N → N < (r + 2 * 2 ^ e) * (r + 2 * 2 ^ e) * (r + 2 * 2 ^ e) → ∃ k, xc_root_7 n1 fu (lN N) (lN r) (lN (2 ^ e)) = nI k ∧ k * k * k ≤ N ∧ N < (k + 1) * (k + 1) * (k + 1) ∧ k < 16384
  | 0, fu, r, hf, h1, h2, h3 => by
    obtain ⟨f2, rfl⟩ : ∃ f2, fu = f2 + 2 := ⟨fu - 2, by omega⟩
    rw [show (2 : Nat) ^ 0 = 1 from rfl] at h1 h3 ⊢
    rw [root_step (by decide) (by omega) hN, show (1 : Nat) / 2 = 0 from rfl, root_end, root_end]
    by_cases hc : (r + 1) * (r + 1) * (r + 1) ≤ N
    · rw [if_pos hc]
      exact ⟨r + 1, rfl, hc, by rw [show r + 1 + 1 = r + 2 * 1 by omega]; exact h3, by omega⟩
    · rw [if_neg hc]
      exact ⟨r, rfl, h2, by omega, by omega⟩
  | e + 1, fu, r, hf, h1, h2, h3 => by
    obtain ⟨f2, rfl⟩ : ∃ f2, fu = f2 + 1 := ⟨fu - 1, by omega⟩
    have hp : (2 : Nat) ^ (e + 1) = 2 * 2 ^ e := by rw [Nat.pow_succ]; omega
    have hpos : 0 < (2 : Nat) ^ e := Nat.two_pow_pos e
    rw [hp] at h1 h3 ⊢
    rw [root_step (by omega) (by omega) hN, show 2 * 2 ^ e / 2 = 2 ^ e by omega]
    by_cases hc : (r + 2 * 2 ^ e) * (r + 2 * 2 ^ e) * (r + 2 * 2 ^ e) ≤ N
    · rw [if_pos hc]
      exact root_go hN e f2 (r + 2 * 2 ^ e) (by omega) (by omega) hc (by rw [show r + 2 * 2 ^ e + 2 * 2 ^ e = r + 2 * (2 * 2 ^ e) by omega]; exact h3)
    · rw [if_neg hc]
      exact root_go hN e f2 r (by omega) (by omega) h2 (by omega)
theorem xc_root_eq {N : Nat} (hN : N < 4398046511104) : ∃ k, xc_root (lN N) = nI k ∧ k * k * k ≤ N ∧ N < (k + 1) * (k + 1) * (k + 1) ∧ k < 16384 := by
  unfold xc_root
  rw [show ((8192 : Int64).toInt.toNat + 1) = 8193 by decide, show (0 : Int64) = lN 0 by decide, show (8192 : Int64) = lN (2 ^ 13) by decide]
  exact root_go (by omega) 13 8193 0 (by decide) (by decide) (by omega) (by omega)
/-- the reference's search -/
def g_tail (mi u : Nat → Int32) : VT := if u 63 ≤ u 47 then v_grows_192 mi (upd (upd u 65 (u 47)) 66 (u 47)) else v_grows_192 mi (upd (upd u 65 (u 63)) 66 (u 47))
theorem bd_eq {α β : Type} (a : α) (k : α → β) : bd a k = k a := Eq.symm (Eq.symm rfl)
theorem v108_step {fu : Nat} {mi u : Nat → Int32} {N i : Nat} (hN : N < 2 ^ 63) (hi : i < 16384) : v_grows_108 (fu + 1) mi u (lN N) (nI i) = if (i + 1) * (i + 1) * (i + 1) ≤ N then v_grows_108 fu mi u (lN N) (nI (i + 1)) else g_tail mi (upd u 64 (nI i)) := by
  rw [v_grows_108]
  unfold g_tail
  simp (decide := true) only [bd_eq, upd_a, upd_b, ne_eq, not_false_eq_true]
  rw [nI_l (show i < 2 ^ 31 by omega), lN_1, lN_mul, lN_mul, nI_1]
  have hc := cubeN_lt (show i + 1 ≤ 16384 by omega)
  by_cases h1 : (i + 1) * (i + 1) * (i + 1) ≤ N
  · rw [if_pos h1, if_neg]
    rw [lgc_gt, pk_lLT hN hc]
    omega
  · rw [if_neg h1, if_pos]
    rw [lgc_gt, pk_lLT hN hc]
    omega
theorem v108_go {mi u : Nat → Int32} {N k : Nat} (hN : N < 2 ^ 63) (hk : k * k * k ≤ N) (hk2 : N < (k + 1) * (k + 1) * (k + 1)) (hk3 : k < 16384) : ∀ (fu i : Nat), i ≤ k → k < fu + i → v_grows_108 fu mi u (lN N) (nI i) = g_tail mi (upd u 64 (nI k))
  | 0, i, h1, h2 => by omega
  | fu + 1, i, h1, h2 => by
    rw [v108_step hN (by omega)]
    by_cases h3 : i = k
    · subst h3
      rw [if_neg (by omega)]
    · have := cube_mono (show i + 1 ≤ k by omega)
      rw [if_pos (by omega)]
      exact v108_go hN hk hk2 hk3 fu (i + 1) (by omega) (by omega)
