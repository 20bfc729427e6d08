theorem x_sends_eq {F : Nat} (hF : F < 4) {mi : Nat → Int32} {ma : Nat → Nat → Int32} : x_sends (nI F) mi ma = x_sends_0 (nI F) (((ma 44 F).toInt + 200 - (ma 45 F).toInt).toNat + zc (ma 72) F + 1) mi ma := by
  unfold x_sends
  rw [nI_clamp (show F < 2 ^ 31 by omega)]
theorem zc_le {r : Nat → Int32} {f : Nat} : zc r f ≤ 512 := by
  unfold zc
  have := List.countP_le_length (p := fun i => decide (r (512 * f + i) = 0)) (l := List.range 512)
  rw [List.length_range] at this
  exact this
theorem sends_pair {F : Nat} (hF : F < 4) {k0 g0 : Int32} {T : Int} {sv tv bv cv : Nat → Int32} {f g : Nat → Int64} {mi m : Nat → Int32} {ma a : Nat → Nat → Int32} {r : Int32} {ov tf : Nat → Int32} {go : Option S4} {gq : List S3} (h : FQ F T k0 g0 sv tv bv cv f g mi ma) (hR : RR ov tf go gq mi ma) (hT : T = (mi 4).toInt + 1) (hx : x_sends (nI F) mi ma = some (m, a, r)) : ∃ sv2 tv2 g2 ov2 tf2 go2 gq2, xc_sendMay ov go gq tf (nI F) k0 g0 sv tv bv cv f g (mi 4) = (sv2, tv2, bv, cv, f, g2, ov2, tf2, go2, gq2) ∧ FQ F T k0 g0 sv2 tv2 bv cv f g2 m a ∧ RR ov2 tf2 go2 gq2 m a ∧ SFR F mi ma m a ∧ QU F a := by
  rw [x_sends_eq hF] at hx
  have q : (ma 44 F).toInt ≤ (ma 45 F).toInt ∧ (ma 45 F).toInt ≤ (ma 46 F).toInt ∧ (ma 55 F).toInt ≤ (ma 46 F).toInt := h.2.1.2.2.2.2.2.2.1
  have z := zc_le (r := ma 72) (f := F)
  unfold xc_sendMay
  have := sends_go hF _ 0 (100000 + 1) mi ma ov tf go gq sv tv g m a r h hR hT hx (by omega) (by omega)
  rw [show nI 0 = (0 : Int32) by decide] at this
  exact this
/-- a quiet sender stays so -/
theorem quiet {F : Nat} (hF : F < 4) {T : Int} {t : Int32} {mi m : Nat → Int32} {ma a : Nat → Nat → Int32} {r : Int32} (hI : SI T t (col ma F)) (hq : QU F ma) (hx : x_sends (nI F) mi ma = some (m, a, r)) : m = oum F mi ma ∧ a = ma := by
  rw [x_sends_eq hF] at hx
  have hP := (ax_some (by rw [x_sends_0] at hx; exact hx)).1
  rw [sends_step hF (NB_of hF hP.1 hI) (MB_nxt hP.1 F hF).1] at hx
  have hx := (ax_some hx).2
  rw [if_pos hq.1] at hx
  have hx := Option.some.inj hx
  unfold finR at hx
  by_cases c : finC F ma
  · have h61 : ¬ col ma F 61 = -1 := hq.2 c
    rw [if_pos c] at hx
    unfold v_tim at hx
    rw [if_neg h61, setc_col] at hx
    exact ⟨(congrArg Prod.fst hx).symm, (congrArg (fun x => x.2.1) hx).symm⟩
  · rw [if_neg c] at hx
    exact ⟨(congrArg Prod.fst hx).symm, (congrArg (fun x => x.2.1) hx).symm⟩
def clr (h : Nat → Int32) (lo hi : Nat) : Nat → Int32 := fun j => if lo ≤ j ∧ j < hi then 0 else h j
theorem clr_step {h : Nat → Int32} {lo hi : Nat} (hl : lo < hi) : clr (upd h lo 0) (lo + 1) hi = clr h lo hi := by
  funext j
  unfold clr
  by_cases e : j = lo
  · rw [if_neg (show ¬ (lo + 1 ≤ j ∧ j < hi) from fun w => by omega), if_pos (show lo ≤ j ∧ j < hi by omega), e, upd_a]
  · rw [upd_b e]
    by_cases c : lo + 1 ≤ j ∧ j < hi
    · rw [if_pos c, if_pos (show lo ≤ j ∧ j < hi by omega)]
    · rw [if_neg c, if_neg (show ¬ (lo ≤ j ∧ j < hi) from fun w => c (by omega))]
theorem clr_end {h : Nat → Int32} {lo : Nat} : clr h lo lo = h := by
  funext j
  unfold clr
  exact if_neg (fun w => by omega)
theorem va_id {α : Type} {a : Nat → α} {k : Nat} : va_up a k (a k) = a := by
  funext j
  by_cases e : j = k
  · rw [e, va_up_self]
  · rw [va_up_ne _ _ e]
theorem va_va {α : Type} {a : Nat → α} {k : Nat} {x y : α} : va_up (va_up a k x) k y = va_up a k y := by
  funext j
  by_cases e : j = k
  · rw [e, va_up_self, va_up_self]
  · rw [va_up_ne _ _ e, va_up_ne _ _ e, va_up_ne _ _ e]
theorem due90 {F : Nat} (hF : F < 4) {mi : Nat → Int32} : ∀ (fu i : Nat) (ma : Nat → Nat → Int32), i ≤ 200 → 200 < fu + i → x_due_90 (nI F) fu mi ma (nI i) = some (mi, va_up (va_up ma 71 (clr (ma 71) (200 * F + i) (200 * F + 200))) 61 (upd (ma 61) F (-1)), 0)
  | 0, i, ma, h1, h2 => by omega
  | fu + 1, i, ma, h1, h2 => by
    rw [x_due_90]
    simp only [bd_eq]
    by_cases c : i = 200
    · subst c
      rw [if_pos (show (200 : Int32) ≤ nI 200 by decide), clr_end, va_id, nI_clamp (show F < 2 ^ 31 by omega)]
    · rw [if_neg (fun w => by
        have := Int32.le_iff_toInt_le.mp w
        rw [nI_toInt (by omega), show (200 : Int32).toInt = 200 by decide] at this
        omega), mul200 hF, nI_add, nI_clamp (show 200 * F + i < 2 ^ 31 by omega), nI_1, due90 hF fu (i + 1) _ (by omega) (by omega)]
      rw [va_up_self, va_va, show vp_nar .boolean (0 : Int32) = 0 from rfl, show 200 * F + (i + 1) = 200 * F + i + 1 from rfl, clr_step (by omega), va_up_ne _ _ (show (61 : Nat) ≠ 71 by decide)]
theorem SI_61 {T : Int} {t x : Int32} {u : Nat → Int32} (h : SI T t u) : SI T t (upd u 61 x) := by
  unfold SI
  simp (decide := true) only [upd_b, ne_eq, not_false_eq_true]
  exact h
theorem SI_69 {T : Int} {t : Int32} {u : Nat → Int32} (h : SI T t u) : SI T t (upd u 69 (-1)) := by
  obtain ⟨h1, h2, h3, h4, h5, h6, h7, h8⟩ := h
  unfold SI
  simp (decide := true) only [upd_a, upd_b, ne_eq, not_false_eq_true]
  exact ⟨h1, h2, Or.inl (by trivial), h4, h5, h6, h7, h8⟩
theorem dbl_rg {x : Int32} (h1 : 0 ≤ x.toInt) (h2 : x.toInt ≤ 60000) : 0 ≤ (if 2 * x ≤ 60000 then 2 * x else 60000).toInt ∧ (if 2 * x ≤ 60000 then 2 * x else 60000).toInt ≤ 60000 := by
  have e := ti_mulc (x := 2 * x) (c := 2) (k := 2) rfl (by decide) (by omega) (by omega)
  have e6 : (60000 : Int32).toInt = 60000 := by decide
  by_cases c : 2 * x ≤ 60000
  · have := Int32.le_iff_toInt_le.mp c
    rw [if_pos c]
    omega
  · rw [if_neg c]
    omega
theorem BQ_same {F : Nat} {bv : Nat → Int32} {f g : Nat → Int64} {ma a : Nat → Nat → Int32} (h : BQ F bv f g ma) (hk : ∀ k, k ∈ ([44, 46, 54, 56] : List Nat) → a k F = ma k F) (h71 : a 71 = ma 71) (h72 : a 72 = ma 72) : BQ F bv f g a := by
  unfold BQ RSq at h ⊢
  rw [hk 44 (by decide), hk 46 (by decide), hk 54 (by decide), hk 56 (by decide), h71, h72]
  exact h
