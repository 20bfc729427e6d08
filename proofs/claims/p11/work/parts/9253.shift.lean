/-- the kept ones move on by one -/
def shf (h : Nat → Int32) (lo i : Nat) : Nat → Int32 := fun j => if lo + i ≤ j ∧ j < lo + 199 then h (j + 1) else if j = lo + 199 then 0 else h j
theorem shf_step {h : Nat → Int32} {lo i : Nat} (hi : i < 199) : shf (upd h (lo + i) (h (lo + i + 1))) lo (i + 1) = shf h lo i := by
  funext j
  unfold shf
  by_cases e : j = lo + i
  · rw [if_neg (show ¬ (lo + (i + 1) ≤ j ∧ j < lo + 199) from fun w => by omega), if_neg (show ¬ j = lo + 199 by omega), if_pos (show lo + i ≤ j ∧ j < lo + 199 by omega), e, upd_a]
  · by_cases c : lo + (i + 1) ≤ j ∧ j < lo + 199
    · rw [if_pos c, if_pos (show lo + i ≤ j ∧ j < lo + 199 by omega), upd_b (by omega)]
    · rw [if_neg c, if_neg (show ¬ (lo + i ≤ j ∧ j < lo + 199) from fun w => c (by omega)), upd_b e]
theorem shf_end {h : Nat → Int32} {lo : Nat} : shf h lo 199 = upd h (lo + 199) 0 := by
  funext j
  unfold shf
  rw [if_neg (show ¬ (lo + 199 ≤ j ∧ j < lo + 199) from fun w => by omega)]
  by_cases e : j = lo + 199
  · rw [if_pos e, e, upd_a]
  · rw [if_neg e, upd_b e]
def shA (F : Nat) (ma : Nat → Nat → Int32) : Nat → Nat → Int32 := va_up (va_up ma 36 (shf (ma 36) (200 * F) 0)) 34 (upd (ma 34) F (ma 34 F + 1))
theorem r145 {F : Nat} (hF : F < 4) {g pb i4 : Int32} {mi : Nat → Int32} {fu : Nat} : ∀ (d i : Nat) (ma : Nat → Nat → Int32), i + d = 199 → (∀ i, i < 200 → ma 36 (200 * F + i) = 0 ∨ ma 36 (200 * F + i) = 1) → x_receives_r (nI F) g pb (fu + d + 1) 145 mi ma i4 (nI i) = x_receives_r (nI F) g pb fu 129 mi (va_up (va_up ma 36 (shf (ma 36) (200 * F) i)) 34 (upd (ma 34) F (ma 34 F + 1))) i4 0
  | 0, i, ma, h, h1 => by
    rw [show fu + 0 + 1 = fu + 1 from rfl, x_receives_r, if_neg (by decide), show i = 199 by omega, if_pos (show (199 : Int32) ≤ nI 199 by decide)]
    simp only [bd_eq]
    rw [mul200 hF, show (199 : Int32) = nI 199 by decide, nI_add, nI_clamp (show 200 * F + 199 < 2 ^ 31 by omega), nI_clamp (show F < 2 ^ 31 by omega), shf_end, va_up_ne _ _ (show (34 : Nat) ≠ 36 by decide), show vp_nar .boolean (0 : Int32) = 0 from rfl]
  | d + 1, i, ma, h, h1 => by
    rw [show fu + (d + 1) + 1 = (fu + d + 1) + 1 from rfl, x_receives_r, if_neg (by decide), if_neg (fun w => by
      have := Int32.le_iff_toInt_le.mp w
      rw [nI_toInt (by omega), show (199 : Int32).toInt = 199 by decide] at this
      omega)]
    simp only [bd_eq]
    rw [mul200 hF, nI_add, nI_1, nI_1, nI_clamp (show 200 * F + i < 2 ^ 31 by omega), nI_clamp (show 200 * F + i + 1 < 2 ^ 31 by omega), nar01 (show ma 36 (200 * F + i + 1) = 0 ∨ ma 36 (200 * F + i + 1) = 1 from h1 (i + 1) (by omega)), r145 hF d (i + 1) _ (by omega) (by
      intro j hj
      rw [va_up_self]
      by_cases e : 200 * F + j = 200 * F + i
      · rw [e, upd_a]
        exact h1 (i + 1) (by omega)
      · rw [upd_b e]
        exact h1 j hj)]
    rw [va_up_self, va_va, shf_step (by omega), va_up_ne _ _ (show (34 : Nat) ≠ 36 by decide)]
theorem shA_36 {F i : Nat} {ma : Nat → Nat → Int32} : shA F ma 36 (200 * F + i) = if i < 199 then ma 36 (200 * F + (i + 1)) else if i = 199 then 0 else ma 36 (200 * F + i) := by
  unfold shA
  rw [va_up_ne _ _ (show (36 : Nat) ≠ 34 by decide), va_up_self]
  unfold shf
  by_cases c : i < 199
  · rw [if_pos (show 200 * F + 0 ≤ 200 * F + i ∧ 200 * F + i < 200 * F + 199 by omega), if_pos c]
    rfl
  · rw [if_neg (show ¬ (200 * F + 0 ≤ 200 * F + i ∧ 200 * F + i < 200 * F + 199) from fun w => by omega), if_neg c]
    by_cases e : i = 199
    · rw [if_pos e, if_pos (by rw [e])]
    · rw [if_neg e, if_neg (by omega)]
theorem shA_o {F i : Nat} {ma : Nat → Nat → Int32} (h : i / 200 ≠ F) : shA F ma 36 i = ma 36 i := by
  unfold shA
  rw [va_up_ne _ _ (show (36 : Nat) ≠ 34 by decide), va_up_self]
  unfold shf
  rw [if_neg (fun w => by omega), if_neg (by omega)]
theorem shA_34 {F : Nat} {ma : Nat → Nat → Int32} : shA F ma 34 F = ma 34 F + 1 := by
  unfold shA
  rw [va_up_self, upd_a]
theorem shA_k {F k : Nat} {ma : Nat → Nat → Int32} (h1 : k ≠ 36) (h2 : k ≠ 34) : shA F ma k = ma k := by
  unfold shA
  rw [va_up_ne _ _ h2, va_up_ne _ _ h1]
theorem shA_RFR {F : Nat} {mi : Nat → Int32} {ma : Nat → Nat → Int32} : RFR F mi ma mi (shA F ma) := by
  refine ⟨fun _ _ => rfl, fun k i hk hi => ?_⟩
  by_cases e : k = 36
  · rw [e]
    exact shA_o (by omega)
  · by_cases e2 : k = 34
    · rw [e2]
      unfold shA
      rw [va_up_self, upd_b (by omega)]
    · rw [shA_k e e2]
/-- the receiver's marks within a step -/
def RK (F : Nat) (rv : Nat → Int32) (kf : Nat → Int64) (ma : Nat → Nat → Int32) : Prop := rv 2 = ma 34 F ∧ rv 5 = nI (cntK (fun i => ma 36 (200 * F + i)) 200) ∧ KQ kf (ma 34 F).toInt.toNat (fun i => ma 36 (200 * F + i)) ∧ (∀ i, i < 200 → ma 36 (200 * F + i) = 0 ∨ ma 36 (200 * F + i) = 1) ∧ (∀ i : Nat, i < 200 → ¬ ma 36 (200 * F + i) = 0 → (ma 34 F).toInt + i < (ma 46 F).toInt) ∧ (ma 34 F).toInt ≤ (ma 46 F).toInt ∧ 0 ≤ (ma 34 F).toInt ∧ (ma 46 F).toInt ≤ 1000001
theorem RK_shift {F : Nat} {rv : Nat → Int32} {kf kf2 : Nat → Int64} {ma : Nat → Nat → Int32} {c : Nat} (h : RK F rv kf ma) (hlt : (ma 34 F).toInt < (ma 46 F).toInt) (h2 : ∀ m, bt4 kf2 m = if m % 256 = (ma 34 F).toInt.toNat % 256 then false else bt4 kf m) (hc : cntK (fun i => ma 36 (200 * F + i)) 200 = c + (if ma 36 (200 * F) = 0 then 0 else 1)) : RK F (upd (upd rv 2 (rv 2 + 1)) 5 (nI c)) kf2 (shA F ma) := by
  obtain ⟨a1, a2, a3, a4, a5, a6, a7, a8⟩ := h
  have t1 : (ma 34 F + 1).toInt = (ma 34 F).toInt + 1 := ti_add1 (by omega)
  have k46 : shA F ma 46 = ma 46 := shA_k (by decide) (by decide)
  have tn : (ma 34 F + 1).toInt.toNat = (ma 34 F).toInt.toNat + 1 := by rw [t1]; omega
  have hs : ∀ i, i < 199 → (fun i => shA F ma 36 (200 * F + i)) i = (fun i => ma 36 (200 * F + i)) (i + 1) := fun i hi => by
    show shA F ma 36 (200 * F + i) = ma 36 (200 * F + (i + 1))
    rw [shA_36, if_pos hi]
  have h9 : (fun i => shA F ma 36 (200 * F + i)) 199 = 0 := by
    show shA F ma 36 (200 * F + 199) = 0
    rw [shA_36, if_neg (by omega), if_pos rfl]
  have hcn : cntK (fun i => shA F ma 36 (200 * F + i)) 200 = c := by
    have e1 : cntK (fun i => ma 36 (200 * F + i)) 200 = cntK (fun i => shA F ma 36 (200 * F + i)) 199 + (if (fun i => ma 36 (200 * F + i)) 0 = 0 then 0 else 1) := cntK_shift (A := fun i => ma 36 (200 * F + i)) (B := fun i => shA F ma 36 (200 * F + i)) (k := 199) hs
    have e2 : cntK (fun i => shA F ma 36 (200 * F + i)) 200 = cntK (fun i => shA F ma 36 (200 * F + i)) 199 + (if (fun i => shA F ma 36 (200 * F + i)) 199 = 0 then 0 else 1) := rfl
    rw [if_pos h9] at e2
    have e3 : (if (fun i => ma 36 (200 * F + i)) 0 = 0 then (0 : Nat) else 1) = (if ma 36 (200 * F) = 0 then 0 else 1) := rfl
    rw [e3] at e1
    omega
  refine ⟨?_, ?_, ?_, fun i hi => ?_, fun i hi w => ?_, ?_, ?_, ?_⟩
  · rw [upd_b (by decide), upd_a, shA_34, a1]
  · rw [upd_a, hcn]
  · rw [shA_34, tn]
    exact KQ_shift a3 h2 hs h9
  · rw [shA_36]
    by_cases c1 : i < 199
    · rw [if_pos c1]
      exact a4 (i + 1) (by omega)
    · rw [if_neg c1, if_pos (show i = 199 by omega)]
      exact Or.inl rfl
  · rw [shA_36] at w
    by_cases c1 : i < 199
    · rw [if_pos c1] at w
      have := a5 (i + 1) (by omega) w
      rw [shA_34, t1, k46]
      omega
    · rw [if_neg c1, if_pos (show i = 199 by omega)] at w
      exact absurd rfl w
  · rw [shA_34, t1, k46]
    omega
  · rw [shA_34, t1]
    omega
  · rw [k46]
    exact a8
theorem rgo_go {F : Nat} (hF : F < 4) {g pb i4 w0 : Int32} {mi : Nat → Int32} : ∀ (fc c fu : Nat) (rv : Nat → Int32) (kf : Nat → Int64) (ma : Nat → Nat → Int32), RK F rv kf ma → cntK (fun i => ma 36 (200 * F + i)) 200 = c → 202 * c + 1 < fu → c < fc → ∃ rv2 kf2 a, x_receives_r (nI F) g pb fu 129 mi ma i4 0 = x_receives_215 (nI F) g pb mi a i4 1 ∧ xc_rgoOn_10 (nI F) w0 fc rv kf = (rv2, kf2) ∧ RK F rv2 kf2 a ∧ a 36 (200 * F) = 0 ∧ RFR F mi ma mi a ∧ (∀ k, k ≠ 36 → k ≠ 34 → a k = ma k) ∧ (∀ k, k ≠ 2 → k ≠ 5 → rv2 k = rv k) ∧ (c = 0 → cntK (fun i => a 36 (200 * F + i)) 200 = 0) := by
  intro fc
  induction fc with
  | zero =>
    intro c fu rv kf ma h hc hf hfc
    omega
  | succ fc ih =>
    intro c fu' rv kf ma h hc hf hfc
    obtain ⟨fu, hfu⟩ : ∃ k, fu' = k + 1 := ⟨fu' - 1, by omega⟩
    subst hfu
    have hF2 : (nI F).toNatClampNeg = F := nI_clamp (by omega)
    have h' := h
    obtain ⟨a1, a2, a3, a4, a5, a6, a7, a8⟩ := h'
    have hcl : c ≤ 200 := by rw [← hc]; exact cntK_le _ _
    rw [x_receives_r, if_pos rfl, xc_rgoOn_10]
    simp only [bd_eq]
    rw [mul200 hF, nI_clamp (show 200 * F < 2 ^ 31 by omega)]
    have ht : bt4 kf ((ma 34 F).toInt.toNat + 0) = true ↔ ¬ ma 36 (200 * F) = 0 := a3.1 0 (by omega)
    have ht : bt4 kf (ma 34 F).toInt.toNat = true ↔ ¬ ma 36 (200 * F) = 0 := ht
    have hn : rv 2 = nI (ma 34 F).toInt.toNat := a1.trans (nIof a7)
    by_cases z : ma 36 (200 * F) = 0
    · rw [if_pos z]
      have hb : ¬ bt4 kf (ma 34 F).toInt.toNat = true := fun w => ht.mp w z
      refine ⟨rv, kf, ma, rfl, ?_, h, z, RFR_refl, fun _ _ _ => rfl, fun _ _ _ => rfl, fun w => by rw [hc]; exact w⟩
      by_cases c5 : rv 5 ≤ 0
      · rw [if_pos c5]
      · rw [if_neg c5, hn, xc_has_eq (by omega)]
        simp (decide := true) only [if_neg hb, ↓reduceIte]
    · rw [if_neg z]
      have hb : bt4 kf (ma 34 F).toInt.toNat = true := ht.mpr z
      have hz : (0 : Nat) < 200 := by omega
      have hlt : (ma 34 F).toInt < (ma 46 F).toInt := by
        have := a5 0 hz z
        omega
      have hcp : 1 ≤ c := by
        rcases Nat.eq_zero_or_pos c with w | w
        · exfalso
          exact z (cntK_zero (A := fun i => ma 36 (200 * F + i)) (hc.trans w) 0 hz)
        · exact w
      have c5 : ¬ rv 5 ≤ 0 := fun w => by
        have := Int32.le_iff_toInt_le.mp w
        rw [a2, hc, nI_toInt (by omega), show (0 : Int32).toInt = 0 by decide] at this
        omega
      rw [if_neg c5, hn, xc_has_eq (by omega)]
      simp (decide := true) only [if_pos hb, ↓reduceIte]
      have hsh := RK_shift (kf2 := xc_drop kf (nI (ma 34 F).toInt.toNat)) (c := c - 1) h hlt (fun m => bt4_drop (by omega)) (by rw [hc, if_neg z]; omega)
      have e5 : rv 5 - 1 = nI (c - 1) := by
        rw [a2, hc]
        obtain ⟨k, hk⟩ : ∃ k, c = k + 1 := ⟨c - 1, by omega⟩
        rw [hk, nI_pred]
        rfl
      have hr := r145 hF (g := g) (pb := pb) (i4 := i4) (mi := mi) (fu := fu - 200) 199 0 ma (by omega) a4
      rw [show nI 0 = (0 : Int32) by decide, show fu - 200 + 199 + 1 = fu by omega] at hr
      have hsA : va_up (va_up ma 36 (shf (ma 36) (200 * F) 0)) 34 (upd (ma 34) F (ma 34 F + 1)) = shA F ma := rfl
      rw [hr, hsA]
      have hcn : cntK (fun i => shA F ma 36 (200 * F + i)) 200 = c - 1 := by
        have q := hsh.2.1
        rw [upd_a] at q
        have q2 := congrArg Int32.toInt q
        have l := cntK_le (fun i => shA F ma 36 (200 * F + i)) 200
        rw [nI_toInt (by omega), nI_toInt (by omega)] at q2
        omega
      obtain ⟨rv2, kf2, a, x1, x2, x3, x4, x5, x6, x7, x8⟩ := ih (c - 1) (fu - 200) _ _ _ hsh hcn (by omega) (by omega)
      refine ⟨rv2, kf2, a, x1, ?_, x3, x4, RFR_trans shA_RFR x5, fun k h1 h2 => (x6 k h1 h2).trans (shA_k h1 h2), fun k h1 h2 => by rw [x7 k h1 h2, upd_b h2, upd_b h1], fun w => by omega⟩
      have es : upd (upd rv 2 (nI (ma 34 F).toInt.toNat + 1)) 5 (upd rv 2 (nI (ma 34 F).toInt.toNat + 1) 5 - 1) = upd (upd rv 2 (rv 2 + 1)) 5 (nI (c - 1)) := by
        rw [upd_b (by decide), e5, hn]
      rw [← hn] at x2 ⊢
      rw [← hn] at es
      rw [es]
      exact x2
