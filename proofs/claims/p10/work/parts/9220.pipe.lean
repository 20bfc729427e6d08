/-- marks at k .. L - 1 -/
def mk (B : Nat → Int32) (k : Nat) : Nat → Nat
  | 0 => 0
  | n + 1 => mk B k n + (if k ≤ n ∧ ¬ B n = 0 then 1 else 0)
theorem mk_le {B : Nat → Int32} {k : Nat} : ∀ {n : Nat}, mk B k n ≤ n
  | 0 => Nat.le_refl _
  | n + 1 => by
    have := mk_le (B := B) (k := k) (n := n)
    unfold mk
    split <;> omega
theorem mk_top {B : Nat → Int32} : ∀ {k n : Nat}, n ≤ k → mk B k n = 0
  | k, 0, _ => rfl
  | k, n + 1, h => by
    unfold mk
    rw [mk_top (show n ≤ k by omega), if_neg (fun w => by omega)]
theorem mk_step {B : Nat → Int32} {k : Nat} : ∀ {n : Nat}, k < n → mk B k n = mk B (k + 1) n + (if B k = 0 then 0 else 1)
  | 0, h => absurd h (Nat.not_lt_zero _)
  | n + 1, h => by
    have e1 : mk B k (n + 1) = mk B k n + (if k ≤ n ∧ ¬ B n = 0 then 1 else 0) := rfl
    have e2 : mk B (k + 1) (n + 1) = mk B (k + 1) n + (if k + 1 ≤ n ∧ ¬ B n = 0 then 1 else 0) := rfl
    rw [e1, e2]
    by_cases e : k = n
    · subst e
      rw [mk_top (Nat.le_refl _), mk_top (by omega), if_neg (show ¬ (k + 1 ≤ k ∧ ¬ B k = 0) from fun w => by omega)]
      by_cases hb : B k = 0
      · rw [if_pos hb, if_neg (show ¬ (k ≤ k ∧ ¬ B k = 0) from fun w => w.2 hb)]
      · rw [if_neg hb, if_pos (show k ≤ k ∧ ¬ B k = 0 from ⟨Nat.le_refl _, hb⟩)]
    · rw [mk_step (show k < n by omega)]
      by_cases hb : B n = 0
      · rw [if_neg (show ¬ (k ≤ n ∧ ¬ B n = 0) from fun w => w.2 hb), if_neg (show ¬ (k + 1 ≤ n ∧ ¬ B n = 0) from fun w => w.2 hb)]
        omega
      · rw [if_pos (show k ≤ n ∧ ¬ B n = 0 from ⟨by omega, hb⟩), if_pos (show k + 1 ≤ n ∧ ¬ B n = 0 from ⟨by omega, hb⟩)]
        omega
/-- what no longer counts as under way -/
abbrev lostB (B : Nat → Int32) (U L : Nat) (bg : Int32) (i : Nat) : Prop := nI (U + i) = bg ∨ 3 ≤ mk B (i + 1) L
def pw (B R : Nat → Int32) (U L : Nat) (bg nx : Int32) (i : Nat) : Nat := if B i = 0 then (if lostB B U L bg i then 0 else if nI (U + i) < nx then 1 else 0) + (if R i = 0 then 0 else 1) else 0
abbrev hitB (B R : Nat → Int32) (U L : Nat) (bg : Int32) (i : Nat) : Prop := B i = 0 ∧ lostB B U L bg i ∧ R i = 0
def psum (B R : Nat → Int32) (U L : Nat) (bg nx : Int32) : Nat → Nat
  | 0 => 0
  | k + 1 => psum B R U L bg nx k + pw B R U L bg nx k
def lst (B R : Nat → Int32) (U L : Nat) (bg : Int32) : Nat → Int32 → Int32
  | 0, x => x
  | k + 1, x => lst B R U L bg k (if hitB B R U L bg k then nI (U + k) else x)
theorem psum_le {B R : Nat → Int32} {U L : Nat} {bg nx : Int32} : ∀ {k : Nat}, psum B R U L bg nx k ≤ 2 * k
  | 0 => Nat.le_refl _
  | k + 1 => by
    have := psum_le (B := B) (R := R) (U := U) (L := L) (bg := bg) (nx := nx) (k := k)
    have h2 : pw B R U L bg nx k ≤ 2 := by
      unfold pw
      repeat' split
      all_goals omega
    unfold psum
    omega
theorem upd_upd {f : Nat → Int32} {k : Nat} {v w : Int32} : upd (upd f k v) k w = upd f k w := by
  funext j
  by_cases h : j = k
  · rw [h, upd_a, upd_a]
  · rw [upd_b h, upd_b h, upd_b h]
theorem nI_m1 {n : Nat} : nI (n + 1) + (-1) = nI n := by
  rw [← nI_1]
  rw [Int32.add_assoc, show (1 : Int32) + (-1) = 0 by decide, Int32.add_zero]
theorem nI_m1_lt {n : Nat} (h : n < 2 ^ 31) : nI n + (-1) < nI n := by
  refine Int32.lt_iff_toInt_lt.mpr ?_
  have e : (nI n).toInt = n := nI_toInt h
  rw [ti_add (x := nI n + (-1)) rfl (by rw [e, show (-1 : Int32).toInt = -1 by decide]; omega) (by rw [e, show (-1 : Int32).toInt = -1 by decide]; omega), e, show (-1 : Int32).toInt = -1 by decide]
  omega
theorem mul512 {F : Nat} (h : F < 4) : (512 : Int32) * nI F = nI (512 * F) := by
  have : F = 0 ∨ F = 1 ∨ F = 2 ∨ F = 3 := by omega
  rcases this with e | e | e | e <;> rw [e] <;> decide
theorem mod512 {n : Nat} (h : n < 2 ^ 31) : nI n - nI n / 512 * 512 = nI (n % 512) := by
  have e : (nI n).toInt = n := nI_toInt h
  apply Int32.toInt_inj.mp
  rw [nI_toInt (by omega)]
  have d : (nI n / 512).toInt = (n : Int) / 512 := by rw [ti_divc (x := nI n / 512) (k := 512) rfl (by decide) (by decide) (by rw [e]; omega), e]
  have m : (nI n / 512 * 512).toInt = (n : Int) / 512 * 512 := by rw [ti_mulr (x := nI n / 512 * 512) (k := 512) rfl (by decide) (by rw [d]; omega) (by rw [d]; omega), d]
  rw [ti_sub (x := nI n - nI n / 512 * 512) rfl (by rw [e, m]; omega) (by rw [e, m]; omega), e, m]
  omega
/-- the reference's way through the window, from above -/
theorem pipe_go {F : Nat} (hF : F < 4) {ma : Nat → Nat → Int32} {U L : Nat} (hU : U < 2 ^ 30) (hL : L ≤ 200) (eU : ma 44 F = nI U) : ∀ (k fu c : Nat) (x : Int32) (mi : Nat → Int32), k ≤ L → k < fu → c ≤ 2 * L - 2 * k → x_pipe_19 (nI F) fu (upd mi 73 x) ma (nI c) (nI (mk (fun i => ma 71 (200 * F + i)) k L)) (nI (U + k) + (-1)) = (upd mi 73 (lst (fun i => ma 71 (200 * F + i)) (fun i => ma 72 (512 * F + (U + i) % 512)) U L (ma 56 F) k x), ma, nI (c + psum (fun i => ma 71 (200 * F + i)) (fun i => ma 72 (512 * F + (U + i) % 512)) U L (ma 56 F) (ma 45 F) k))
  | 0, 0, c, x, mi, h1, h2, h3 => by omega
  | 0, fu + 1, c, x, mi, h1, h2, h3 => by
    rw [x_pipe_19]
    simp only [bd_eq]
    rw [nI_clamp (show F < 2 ^ 31 by omega), eU, Nat.add_zero, if_pos (nI_m1_lt (by omega))]
    rfl
  | k + 1, 0, c, x, mi, h1, h2, h3 => by omega
  | k + 1, fu + 1, c, x, mi, h1, h2, h3 => by
    have ih := fun (c : Nat) (x : Int32) (hc : c ≤ 2 * L - 2 * k) => pipe_go hF hU hL eU k fu c x mi (by omega) (by omega) hc
    rw [x_pipe_19]
    simp only [bd_eq]
    have e1 : nI (U + (k + 1)) + (-1) = nI (U + k) := nI_m1
    have n1 : ¬ nI (U + k) < nI U := by
      intro w
      have := Int32.lt_iff_toInt_lt.mp w
      rw [nI_toInt (by omega), nI_toInt (by omega)] at this
      omega
    have ix : (200 * nI F + nI (U + k) - nI U).toNatClampNeg = 200 * F + k := by
      rw [mul200 hF, nI_add, show nI (200 * F + (U + k)) = nI ((200 * F + k) + U) by rw [show 200 * F + (U + k) = 200 * F + k + U by omega], ← nI_add, Int32.add_sub_cancel, nI_clamp (by omega)]
    have ir : (512 * nI F + (nI (U + k) - nI (U + k) / 512 * 512)).toNatClampNeg = 512 * F + (U + k) % 512 := by
      rw [mul512 hF, mod512 (by omega), nI_add, nI_clamp (by omega)]
    have sm : mk (fun i => ma 71 (200 * F + i)) k L = mk (fun i => ma 71 (200 * F + i)) (k + 1) L + (if ma 71 (200 * F + k) = 0 then 0 else 1) := mk_step (show k < L by omega)
    have ml := mk_le (B := fun i => ma 71 (200 * F + i)) (k := k + 1) (n := L)
    have l1 : lst (fun i => ma 71 (200 * F + i)) (fun i => ma 72 (512 * F + (U + i) % 512)) U L (ma 56 F) (k + 1) x = lst (fun i => ma 71 (200 * F + i)) (fun i => ma 72 (512 * F + (U + i) % 512)) U L (ma 56 F) k (if hitB (fun i => ma 71 (200 * F + i)) (fun i => ma 72 (512 * F + (U + i) % 512)) U L (ma 56 F) k then nI (U + k) else x) := rfl
    have l2 : psum (fun i => ma 71 (200 * F + i)) (fun i => ma 72 (512 * F + (U + i) % 512)) U L (ma 56 F) (ma 45 F) (k + 1) = psum (fun i => ma 71 (200 * F + i)) (fun i => ma 72 (512 * F + (U + i) % 512)) U L (ma 56 F) (ma 45 F) k + pw (fun i => ma 71 (200 * F + i)) (fun i => ma 72 (512 * F + (U + i) % 512)) U L (ma 56 F) (ma 45 F) k := rfl
    rw [l1, l2, nI_clamp (show F < 2 ^ 31 by omega), eU, e1, if_neg n1, ix, ir]
    clear l1 l2
    generalize psum (fun i => ma 71 (200 * F + i)) (fun i => ma 72 (512 * F + (U + i) % 512)) U L (ma 56 F) (ma 45 F) k = s at ih ⊢
    have hz : ∀ c : Nat, nI c + (0 : Int32) = nI c := fun c => Int32.add_zero _
    have h2' : ∀ c : Nat, nI c + (2 : Int32) = nI (c + 2) := fun c => nI_add c 2
    have hlt : nI (mk (fun i => ma 71 (200 * F + i)) (k + 1) L) < 3 ↔ ¬ 3 ≤ mk (fun i => ma 71 (200 * F + i)) (k + 1) L := by
      rw [Int32.lt_iff_toInt_lt, nI_toInt (by omega), show (3 : Int32).toInt = 3 by decide]
      omega
    by_cases hb : ma 71 (200 * F + k) = 0
    · rw [if_pos hb] at sm ⊢
      rw [Nat.add_zero] at sm
      rw [sm] at ih
      have hw : pw (fun i => ma 71 (200 * F + i)) (fun i => ma 72 (512 * F + (U + i) % 512)) U L (ma 56 F) (ma 45 F) k = (if lostB (fun i => ma 71 (200 * F + i)) U L (ma 56 F) k then 0 else if nI (U + k) < ma 45 F then 1 else 0) + (if ma 72 (512 * F + (U + k) % 512) = 0 then 0 else 1) := if_pos hb
      rw [hw]
      clear hw
      have hh : hitB (fun i => ma 71 (200 * F + i)) (fun i => ma 72 (512 * F + (U + i) % 512)) U L (ma 56 F) k ↔ lostB (fun i => ma 71 (200 * F + i)) U L (ma 56 F) k ∧ ma 72 (512 * F + (U + k) % 512) = 0 := ⟨fun w => w.2, fun w => ⟨hb, w⟩⟩
      by_cases hl : lostB (fun i => ma 71 (200 * F + i)) U L (ma 56 F) k
      · rw [if_pos hl]
        by_cases hr : ma 72 (512 * F + (U + k) % 512) = 0
        · simp only [if_pos hr, hz, upd_upd, nI_1, h2']
          rw [if_pos (hh.mpr ⟨hl, hr⟩)]
          have key := ih c (nI (U + k)) (by omega)
          rcases hl with hl | hl
          · rw [if_pos hl]
            split <;> exact key
          · by_cases hl2 : nI (U + k) = ma 56 F
            · rw [if_pos hl2]
              split <;> exact key
            · rw [if_neg hl2, if_neg (fun w => hlt.mp w hl)]
              split <;> exact key
        · simp only [if_neg hr, hz, upd_upd, nI_1, h2']
          rw [if_neg (fun w => hr (hh.mp w).2)]
          have key := ih (c + 1) x (by omega)
          rw [show c + (s + (0 + 1)) = c + 1 + s by omega]
          rcases hl with hl | hl
          · rw [if_pos hl]
            split <;> exact key
          · by_cases hl2 : nI (U + k) = ma 56 F
            · rw [if_pos hl2]
              split <;> exact key
            · rw [if_neg hl2, if_neg (fun w => hlt.mp w hl)]
              split <;> exact key
      · have g1 : ¬ nI (U + k) = ma 56 F := fun w => hl (Or.inl w)
        have g2 : nI (mk (fun i => ma 71 (200 * F + i)) (k + 1) L) < 3 := hlt.mpr (fun w => hl (Or.inr w))
        rw [if_neg hl, if_neg g1, if_pos g2, if_neg (fun w => hl (hh.mp w).1)]
        by_cases hr : ma 72 (512 * F + (U + k) % 512) = 0
        · simp only [if_pos hr, hz, nI_1, h2']
          by_cases hn : ma 45 F ≤ nI (U + k)
          · rw [if_pos hn, if_neg (Int32.not_lt.mpr hn)]
            exact ih c x (by omega)
          · rw [if_neg hn, if_pos (Int32.not_le.mp hn)]
            rw [show c + (s + (1 + 0)) = c + 1 + s by omega]
            exact ih (c + 1) x (by omega)
        · simp only [if_neg hr, hz, nI_1, h2']
          by_cases hn : ma 45 F ≤ nI (U + k)
          · rw [if_pos hn, if_neg (Int32.not_lt.mpr hn)]
            rw [show c + (s + (0 + 1)) = c + 1 + s by omega]
            exact ih (c + 1) x (by omega)
          · rw [if_neg hn, if_pos (Int32.not_le.mp hn)]
            rw [show c + (s + (1 + 1)) = c + 2 + s by omega]
            exact ih (c + 2) x (by omega)
    · rw [if_neg hb] at sm ⊢
      have hw : pw (fun i => ma 71 (200 * F + i)) (fun i => ma 72 (512 * F + (U + i) % 512)) U L (ma 56 F) (ma 45 F) k = 0 := if_neg hb
      rw [hw, show s + 0 = s from rfl, nI_1, if_neg (show ¬ hitB (fun i => ma 71 (200 * F + i)) (fun i => ma 72 (512 * F + (U + i) % 512)) U L (ma 56 F) k from fun w => hb w.1)]
      rw [sm] at ih
      exact ih c x (by omega)
theorem x_pipe_eq {F : Nat} (hF : F < 4) {mi : Nat → Int32} {ma : Nat → Nat → Int32} {U L : Nat} (hU : U < 2 ^ 30) (hL : L ≤ 200) (eU : ma 44 F = nI U) (eH : ma 46 F = nI (U + L)) : x_pipe (nI F) mi ma = (upd mi 73 (lst (fun i => ma 71 (200 * F + i)) (fun i => ma 72 (512 * F + (U + i) % 512)) U L (ma 56 F) L (-1)), ma, nI (psum (fun i => ma 71 (200 * F + i)) (fun i => ma 72 (512 * F + (U + i) % 512)) U L (ma 56 F) (ma 45 F) L)) := by
  unfold x_pipe
  simp only [bd_eq]
  rw [nI_clamp (show F < 2 ^ 31 by omega), eH]
  have e : nI (U + L) - 1 = nI (U + L) + (-1) := by
    rw [Int32.sub_eq_add_neg]
  have et : (nI (U + L) + (-1)).toInt = (U + L : Nat) - 1 := by
    have q : (nI (U + L)).toInt = (U + L : Nat) := nI_toInt (by omega)
    rw [ti_add (x := nI (U + L) + (-1)) rfl (by rw [q, show (-1 : Int32).toInt = -1 by decide]; omega) (by rw [q, show (-1 : Int32).toInt = -1 by decide]; omega), q, show (-1 : Int32).toInt = -1 by decide]
    rfl
  rw [e]
  have := pipe_go hF hU hL eU L (((nI (U + L) + (-1)).toInt + 2).toNat) 0 (-1) mi (Nat.le_refl _) (by rw [et]; omega) (by omega)
  rw [mk_top (Nat.le_refl _), show nI 0 = (0 : Int32) by decide, Nat.zero_add] at this
  exact this
