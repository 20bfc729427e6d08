theorem RR_c {F : Nat} {ov tf : Nat → Int32} {go : Option S4} {gq : List S3} {mi : Nat → Int32} {ma : Nat → Nat → Int32} {u : Nat → Int32} {l : List Nat} (h : RR ov tf go gq mi ma) (hU : UF l (col ma F) u) (hl : ∀ k, k ∈ l → 42 ≤ k ∧ k ≤ 70 ∧ k ≠ 46) : RR ov tf go gq mi (setc ma F u) := by
  refine RR_keep h (fun k _ => rfl) (fun k hk => setc_keep hU (fun w => ?_)) (fun i => ?_)
  · have := hl k w
    revert hk
    simp only [List.mem_cons, List.not_mem_nil, or_false]
    omega
  · rw [setc_keep hU (fun w => by have := hl 46 w; omega)]
    exact Int.le_refl _
theorem BQ_c {F : Nat} {bv : Nat → Int32} {f g : Nat → Int64} {ma : Nat → Nat → Int32} {u : Nat → Int32} {l : List Nat} (h : BQ F bv f g ma) (hU : UF l (col ma F) u) (hl : ∀ k, k ∈ l → k ∉ ([44, 46, 54, 56, 71, 72] : List Nat)) : BQ F bv f g (setc ma F u) :=
  BQ_same h (fun k hk => by rw [setc_keep hU (fun w => hl k w (by revert hk; exact sub_of (by decide) k))]) (setc_keep hU (fun w => hl 71 w (by decide))) (setc_keep hU (fun w => hl 72 w (by decide)))
theorem SI_UF {T : Int} {t : Int32} {u u2 : Nat → Int32} {l : List Nat} (h : SI T t u) (hU : UF l u u2) (hl : ∀ k, k ∈ l → k ∉ ([50, 52, 69, 70, 67, 64, 49, 44, 45, 46, 55, 42, 54, 56] : List Nat)) : SI T t u2 := by
  unfold SI at h ⊢
  rw [hU 50 (fun w => hl 50 w (by decide)), hU 52 (fun w => hl 52 w (by decide)), hU 69 (fun w => hl 69 w (by decide)), hU 70 (fun w => hl 70 w (by decide)), hU 67 (fun w => hl 67 w (by decide)), hU 64 (fun w => hl 64 w (by decide)), hU 49 (fun w => hl 49 w (by decide)), hU 44 (fun w => hl 44 w (by decide)), hU 45 (fun w => hl 45 w (by decide)), hU 46 (fun w => hl 46 w (by decide)), hU 55 (fun w => hl 55 w (by decide)), hU 42 (fun w => hl 42 w (by decide)), hU 54 (fun w => hl 54 w (by decide)), hU 56 (fun w => hl 56 w (by decide))]
  exact h
theorem FQ_open {F : Nat} {T : Int} {n0 k0 g0 n : Int32} {sv tv bv cv : Nat → Int32} {f g : Nat → Int64} {mi : Nat → Int32} {ma : Nat → Nat → Int32} (h : FQ F T k0 g0 sv tv bv cv f g mi ma) : ∃ sv2, xc_setCwnd n0 k0 g0 sv tv bv cv f g n = (sv2, tv, bv, cv, f, g) ∧ FQ F T k0 g0 sv2 tv bv cv f g mi (setc ma F (v_opens n mi (col ma F)).1) ∧ (∀ k, k ≠ 6 → k ≠ 7 → sv2 k = sv k) := by
  obtain ⟨hS, hI, hB⟩ := h
  obtain ⟨sv2, h1, h2, h3⟩ := SQ_open (n0 := n0) (n1 := n) (n2 := n) (bv := bv) (f := f) (g := g) (mi := mi) hS rfl
  have hU : UF [47, 68] (col ma F) (v_opens n mi (col ma F)).1 := v_opens_UF
  refine ⟨sv2, h1, ⟨by rw [col_setc]; exact h2, ?_, fun hk => BQ_c (hB hk) hU (by decide)⟩, h3⟩
  rw [col_setc]
  exact SI_UF hI hU (by decide)
theorem xc_dup_eq {n0 k0 g0 : Int32} {sv tv bv cv : Nat → Int32} {f g : Nat → Int64} : xc_dup n0 k0 g0 sv tv bv cv f g = if ¬ sv 11 = 0 ∧ ¬ k0 = 3 then xc_setCwnd n0 k0 g0 (upd sv 10 (sv 10 + 1)) tv bv cv f g (sv 6 + 1024) else (upd sv 10 (sv 10 + 1), tv, bv, cv, f, g) := by
  unfold xc_dup
  simp only [bd_eq]
  simp (decide := true) only [upd_b, ne_eq, not_false_eq_true]
  by_cases c : sv 11 = 0
  · rw [if_pos c, if_neg (show ¬ (¬ sv 11 = 0 ∧ ¬ k0 = 3) from fun w => w.1 c)]
  · rw [if_neg c]
    by_cases d : k0 = 3
    · rw [if_pos d, if_neg (show ¬ (¬ sv 11 = 0 ∧ ¬ k0 = 3) from fun w => w.2 d)]
    · rw [if_neg d, if_pos (show ¬ sv 11 = 0 ∧ ¬ k0 = 3 from ⟨c, d⟩)]
theorem xc_starts_eq {n0 k0 g0 : Int32} {sv tv bv cv : Nat → Int32} {f g : Nat → Int64} : xc_starts n0 k0 g0 sv tv bv cv f g = (sv, tv, bv, cv, f, g, if sv 11 = 0 ∧ sv 10 = 3 ∧ (k0 = 0 ∨ ¬ sv 3 < sv 12) then 1 else 0) := by
  unfold xc_starts
  simp only [bd_eq]
  by_cases c : sv 11 = 0
  · rw [if_pos c]
    by_cases d : sv 10 = 3
    · rw [if_pos d]
      by_cases e : k0 = 0
      · rw [if_pos e, if_pos (show sv 11 = 0 ∧ sv 10 = 3 ∧ (k0 = 0 ∨ ¬ sv 3 < sv 12) from ⟨c, d, Or.inl e⟩)]
      · rw [if_neg e]
        by_cases z : sv 3 < sv 12
        · rw [if_pos z, if_neg (show ¬ (sv 11 = 0 ∧ sv 10 = 3 ∧ (k0 = 0 ∨ ¬ sv 3 < sv 12)) from fun w => by rcases w.2.2 with w | w; exact e w; exact w z)]
        · rw [if_neg z, if_pos (show sv 11 = 0 ∧ sv 10 = 3 ∧ (k0 = 0 ∨ ¬ sv 3 < sv 12) from ⟨c, d, Or.inr z⟩)]
    · rw [if_neg d, if_neg (show ¬ (sv 11 = 0 ∧ sv 10 = 3 ∧ (k0 = 0 ∨ ¬ sv 3 < sv 12)) from fun w => d w.2.1)]
  · rw [if_neg c, if_neg (show ¬ (sv 11 = 0 ∧ sv 10 = 3 ∧ (k0 = 0 ∨ ¬ sv 3 < sv 12)) from fun w => c w.1)]
/-- a recovery begins: the numbers before the segment is sent -/
def v_beg (mi u : Nat → Int32) : Nat → Int32 := upd (upd (v_loses mi (upd (upd u 54 1) 58 (u 58 + 1))).1 55 (u 46)) 56 (u 44)
def dtail (F : Nat) (mi : Nat → Int32) (a : Nat → Nat → Int32) : XT := bc (x_sendsAgain (nI F) (a 44 F) mi (va_up a 56 (upd (a 56) F (a 44 F)))) (fun m a _ => if a 42 F = 3 then (m, setc a F (v_opens (a 48 F + 0) m (col a F)).1, 0) else (m, setc a F (v_opens (a 48 F + 3072) m (col a F)).1, 0))
theorem dup116 {F : Nat} (hF : F < 4) {mi : Nat → Int32} : ∀ (fu i : Nat) (ma : Nat → Nat → Int32), i ≤ 512 → 512 < fu + i → x_duplicate_116 (nI F) fu mi ma (nI i) = dtail F mi (va_up ma 72 (clr (ma 72) (512 * F + i) (512 * F + 512)))
  | 0, i, ma, h1, h2 => by omega
  | fu + 1, i, ma, h1, h2 => by
    rw [x_duplicate_116]
    simp only [bd_eq]
    by_cases c : i = 512
    · subst c
      rw [if_pos (show (512 : Int32) ≤ nI 512 by decide), clr_end, va_id]
      simp only [nI_clamp (show F < 2 ^ 31 by omega), x_opens_c hF, bc_eq]
      unfold dtail
      rw [va_up_ne _ _ (show (44 : Nat) ≠ 56 by decide)]
    · rw [if_neg (fun w => by
        have := Int32.le_iff_toInt_le.mp w
        rw [nI_toInt (by omega), show (512 : Int32).toInt = 512 by decide] at this
        omega), mul512 hF, nI_add, nI_clamp (show 512 * F + i < 2 ^ 31 by omega), nI_1, dup116 hF fu (i + 1) _ (by omega) (by omega)]
      rw [va_up_self, va_va, show vp_nar .boolean (0 : Int32) = 0 from rfl, show 512 * F + (i + 1) = 512 * F + i + 1 from rfl, clr_step (by omega)]
