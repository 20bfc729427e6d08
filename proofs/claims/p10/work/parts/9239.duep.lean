/-- a timeout, on the column -/
def v_out (mi u : Nat → Int32) : Nat → Int32 := upd (upd (upd (upd (v_doubles mi (v_opens 1024 mi (v_loses mi (upd (upd u 69 (-1)) 57 (u 57 + 1))).1).1).1 54 0) 53 0) 55 (u 46)) 45 (u 44)
theorem v_out_k {mi u : Nat → Int32} {k : Nat} (h : k ∉ ([69, 57, 48, 63, 67, 47, 68, 49, 54, 53, 55, 45] : List Nat)) : v_out mi u k = u k := by
  have n : ∀ j, j ∈ ([69, 57, 48, 63, 67, 47, 68, 49, 54, 53, 55, 45] : List Nat) → k ≠ j := fun j hj e => h (e ▸ hj)
  unfold v_out
  rw [upd_b (n 45 (by decide)), upd_b (n 55 (by decide)), upd_b (n 53 (by decide)), upd_b (n 54 (by decide)), v_doubles_UF k (by simp only [List.mem_singleton]; exact n 49 (by decide)), v_opens_UF k (by simp only [List.mem_cons, List.not_mem_nil, or_false]; exact fun w => by rcases w with w | w; exact n 47 (by decide) w; exact n 68 (by decide) w), v_loses_UF k (by simp only [List.mem_cons, List.not_mem_nil, or_false]; exact fun w => by rcases w with w | w | w; exact n 48 (by decide) w; exact n 63 (by decide) w; exact n 67 (by decide) w), upd_b (n 57 (by decide)), upd_b (n 69 (by decide))]
theorem v_loses_67 {mi u : Nat → Int32} : (v_loses mi u).1 67 = -1 ∨ (v_loses mi u).1 67 = u 67 := by
  unfold v_loses
  simp only [bd_eq]
  repeat' split
  all_goals simp (decide := true) only [upd_a, upd_b, ne_eq, not_false_eq_true, true_or, or_true]
theorem due_B {F : Nat} (hF : F < 4) {mi m : Nat → Int32} {ma a : Nat → Nat → Int32} {r : Int32} (hlt : ¬ ma 45 F ≤ ma 44 F) (hx : x_due (nI F) mi ma = some (m, a, r)) : m = mi ∧ a = va_up (va_up (setc ma F (v_out mi (col ma F))) 71 (clr (ma 71) (200 * F) (200 * F + 200))) 61 (upd (ma 61) F (-1)) := by
  unfold x_due at hx
  have hx := (ax_some hx).2
  have hF2 : (nI F).toNatClampNeg = F := nI_clamp (by omega)
  obtain ⟨u, hu⟩ : ∃ u, u = col ma F := ⟨_, rfl⟩
  have hm : ma = setc ma F u := by rw [hu, setc_col]
  have h1 : ¬ u 45 ≤ u 44 := by rw [hu]; exact hlt
  have hO := fun (w : Nat → Int32) => x_opens_v (nI F) 1024 F hF2 mi ma w
  have hD := fun (w : Nat → Int32) => x_doubles_v (nI F) F hF2 mi ma w
  have hL := fun (w : Nat → Int32) => x_loses_v (nI F) F hF2 mi ma w
  rw [hm] at hx
  simp only [bd_eq, hF2, up_setc, setc_at, hO, hD, hL, bc_lf, show vp_nar .boolean (0 : Int32) = 0 from rfl] at hx
  simp (decide := true) only [upd_b, ne_eq, not_false_eq_true] at hx
  rw [if_neg h1] at hx
  have e46 : (v_doubles mi (v_opens 1024 mi (v_loses mi (upd (upd u 69 (-1)) 57 (u 57 + 1))).1).1).1 46 = u 46 := by
    rw [v_doubles_UF 46 (by decide), v_opens_UF 46 (by decide), v_loses_UF 46 (by decide), upd_b (by decide), upd_b (by decide)]
  have e44 : (v_doubles mi (v_opens 1024 mi (v_loses mi (upd (upd u 69 (-1)) 57 (u 57 + 1))).1).1).1 44 = u 44 := by
    rw [v_doubles_UF 44 (by decide), v_opens_UF 44 (by decide), v_loses_UF 44 (by decide), upd_b (by decide), upd_b (by decide)]
  rw [e46, e44] at hx
  have hb := due90 hF (mi := mi) 201 0 (setc ma F (v_out mi u)) (by omega) (by omega)
  rw [show nI 0 = (0 : Int32) by decide] at hb
  unfold v_out at hb
  rw [hb] at hx
  have hx := Option.some.inj hx
  have k71 : setc ma F (v_out mi u) 71 = ma 71 := by
    funext i
    by_cases e : i = F
    · rw [e, setc_at, v_out_k (by decide), hu]
      rfl
    · exact setc_ne e
  have k61 : setc ma F (v_out mi u) 61 = ma 61 := by
    funext i
    by_cases e : i = F
    · rw [e, setc_at, v_out_k (by decide), hu]
      rfl
    · exact setc_ne e
  refine ⟨(congrArg Prod.fst hx).symm, ?_⟩
  have := (congrArg (fun x => x.2.1) hx).symm
  rw [hu] at k71 k61 this
  unfold v_out at k71 k61
  dsimp only at this
  rw [k71, k61] at this
  exact this
theorem xc_timeOut_eq {n0 k0 g0 : Int32} {sv tv bv cv : Nat → Int32} {f g : Nat → Int64} : ∃ x y, xc_timeOut n0 k0 g0 sv tv bv cv f g = (upd (upd (upd (upd (upd (upd (upd (upd sv 8 (lossC k0 (sv 6) (sv 4) (sv 3) cv).2) 6 x) 7 y) 13 (sv 13 + 1)) 11 0) 10 0) 12 (sv 5)) 4 (sv 3), xc_tdouble tv, upd bv 2 0, (lossC k0 (sv 6) (sv 4) (sv 3) cv).1, xc_clear f, g) ∧ x = (if (1024 : Int32) ≤ 262144 then 1024 else 262144) ∧ y = (if (if (1024 : Int32) ≤ 262144 then 1024 else 262144) ≤ sv 7 then sv 7 else (if (1024 : Int32) ≤ 262144 then 1024 else 262144)) := by
  refine ⟨_, _, ?_, rfl, rfl⟩
  unfold xc_timeOut xc_bforget
  simp only [bd_eq, xc_loss_eq, xc_setCwnd_eq]
  simp (decide := true) only [upd_b, ne_eq, not_false_eq_true]
theorem due_pairB {F : Nat} (hF : F < 4) {k0 g0 : Int32} {T : Int} {sv tv bv cv : Nat → Int32} {f g : Nat → Int64} {mi m : Nat → Int32} {ma a : Nat → Nat → Int32} {r : Int32} {ov tf : Nat → Int32} {go : Option S4} {gq : List S3} (h : FQ F T k0 g0 sv tv bv cv f g mi ma) (hR : RR ov tf go gq mi ma) (h0 : (ma 44 F).toInt ≤ 1000001) (h00 : 0 ≤ (ma 44 F).toInt) (hlt : ¬ ma 45 F ≤ ma 44 F) (hx : x_due (nI F) mi ma = some (m, a, r)) : ∃ sv2 tv2 bv2 cv2 f2, xc_timeOut (nI F) k0 g0 sv (upd (xc_tput tv) 4 (-1)) bv cv f g = (sv2, tv2, bv2, cv2, f2, g) ∧ FQ F T k0 g0 sv2 tv2 bv2 cv2 f2 g m a ∧ RR ov tf go gq m a ∧ SFR F mi ma m a := by
  obtain ⟨hm, ha⟩ := due_B hF hlt hx
  obtain ⟨hS, hI, hB⟩ := h
  obtain ⟨x, y, hto, hx1, hy1⟩ := xc_timeOut_eq (n0 := nI F) (k0 := k0) (g0 := g0) (sv := sv) (tv := upd (xc_tput tv) 4 (-1)) (bv := bv) (cv := cv) (f := f) (g := g)
  have q : (ma 44 F).toInt ≤ (ma 45 F).toInt ∧ (ma 45 F).toInt ≤ (ma 46 F).toInt ∧ (ma 55 F).toInt ≤ (ma 46 F).toInt := hI.2.2.2.2.2.2.1
  have hlt2 := Int32.lt_iff_toInt_lt.mp (Int32.not_le.mp hlt)
  have hAG : AG (upd (v_out mi (col ma F)) 61 (-1)) (col a F) := by
    rw [ha]
    intro k k1 k2
    unfold col
    by_cases e : k = 61
    · rw [e, va_up_self, upd_a, upd_a]
    · rw [va_up_ne _ _ e, upd_b e, va_up_ne _ _ (show k ≠ 71 by omega), setc_at]
  have h1 := SQ_ut4 hS (rfl : (-1 : Int32) = -1)
  have h2 := SQ_us13 h1 (show sv 13 + 1 = col ma F 57 + 1 by rw [SQ_s13 hS])
  have h3 := SQ_lossC (mi := mi) h2
  simp (decide := true) only [upd_b, ne_eq, not_false_eq_true] at h3
  have h4 : SQ (upd (upd (upd (upd sv 13 (sv 13 + 1)) 8 (lossC k0 (sv 6) (sv 4) (sv 3) cv).2) 6 x) 7 y) (upd tv 4 (-1)) (lossC k0 (sv 6) (sv 4) (sv 3) cv).1 k0 g0 (v_opens 1024 mi (v_loses mi (upd (upd (col ma F) 69 (-1)) 57 (col ma F 57 + 1))).1).1 := by
    rw [v_opens_eq]
    refine SQ_us7 (SQ_us6 h3 hx1) ?_
    have e7 := SQ_s7 h3
    simp (decide := true) only [upd_b, ne_eq, not_false_eq_true] at e7
    rw [← e7, hy1]
  have h5 := SQ_double (mi := mi) h4
  have h9 : SQ (upd (upd (upd (upd (upd (upd (upd (upd sv 13 (sv 13 + 1)) 8 (lossC k0 (sv 6) (sv 4) (sv 3) cv).2) 6 x) 7 y) 11 0) 10 0) 12 (sv 5)) 4 (sv 3)) (xc_tdouble (upd tv 4 (-1))) (lossC k0 (sv 6) (sv 4) (sv 3) cv).1 k0 g0 (v_out mi (col ma F)) := SQ_us4 (SQ_us12 (SQ_us10 (SQ_us11 h5 rfl) rfl) (SQ_s5 hS)) (SQ_s3 hS)
  have h10 := SQ_ut3 h9 (rfl : (-1 : Int32) = -1)
  have esv : upd (upd (upd (upd sv 8 (lossC k0 (sv 6) (sv 4) (sv 3) cv).2) 6 x) 7 y) 13 (sv 13 + 1) = upd (upd (upd (upd sv 13 (sv 13 + 1)) 8 (lossC k0 (sv 6) (sv 4) (sv 3) cv).2) 6 x) 7 y := by
    rw [upd_comm (show (7 : Nat) ≠ 13 by decide), upd_comm (show (6 : Nat) ≠ 13 by decide), upd_comm (show (8 : Nat) ≠ 13 by decide)]
  have etv : xc_tdouble (upd (xc_tput tv) 4 (-1)) = upd (xc_tdouble (upd tv 4 (-1))) 3 (-1) := by
    rw [xc_tdouble_eq, xc_tdouble_eq, show xc_tput tv = upd tv 3 (-1) from rfl]
    simp (decide := true) only [upd_b, ne_eq, not_false_eq_true]
    rw [upd_comm (show (3 : Nat) ≠ 4 by decide), upd_comm (show (3 : Nat) ≠ 0 by decide)]
  have hUo := fun k => v_out_k (mi := mi) (u := col ma F) (k := k)
  have k69 : v_out mi (col ma F) 69 = -1 := by
    unfold v_out
    rw [upd_b (by decide), upd_b (by decide), upd_b (by decide), upd_b (by decide), v_doubles_UF 69 (by decide), v_opens_UF 69 (by decide), v_loses_UF 69 (by decide), upd_b (by decide), upd_a]
  have k67 : v_out mi (col ma F) 67 = -1 ∨ v_out mi (col ma F) 67 = ma 67 F := by
    have e : v_out mi (col ma F) 67 = (v_loses mi (upd (upd (col ma F) 69 (-1)) 57 (col ma F 57 + 1))).1 67 := by
      unfold v_out
      rw [upd_b (by decide), upd_b (by decide), upd_b (by decide), upd_b (by decide), v_doubles_UF 67 (by decide), v_opens_UF 67 (by decide)]
    rw [e]
    rcases v_loses_67 (mi := mi) (u := upd (upd (col ma F) 69 (-1)) 57 (col ma F 57 + 1)) with w | w
    · exact Or.inl w
    · refine Or.inr (w.trans ?_)
      rw [upd_b (by decide), upd_b (by decide)]
      rfl
  have k49 : 0 ≤ (v_out mi (col ma F) 49).toInt ∧ (v_out mi (col ma F) 49).toInt ≤ 60000 := by
    have e : v_out mi (col ma F) 49 = if 2 * col ma F 49 ≤ 60000 then 2 * col ma F 49 else 60000 := by
      unfold v_out
      rw [upd_b (by decide), upd_b (by decide), upd_b (by decide), upd_b (by decide), v_doubles_eq]
      simp (decide := true) only [upd_a]
      rw [v_opens_UF 49 (by decide), v_loses_UF 49 (by decide), upd_b (by decide), upd_b (by decide)]
    rw [e]
    exact dbl_rg hI.2.2.2.2.2.1.1 hI.2.2.2.2.2.1.2
  have k54 : v_out mi (col ma F) 54 = 0 := by
    unfold v_out
    rw [upd_b (by decide), upd_b (by decide), upd_b (by decide), upd_a]
  have k55 : v_out mi (col ma F) 55 = ma 46 F := by
    unfold v_out
    rw [upd_b (by decide), upd_a]
    rfl
  have k45 : v_out mi (col ma F) 45 = ma 44 F := by
    unfold v_out
    rw [upd_a]
    rfl
  have hcl : ∀ k, k ≠ 61 → k ≠ 71 → a k F = v_out mi (col ma F) k := by
    intro k e1 e2
    rw [ha, va_up_ne _ _ e1, va_up_ne _ _ e2, setc_at]
  refine ⟨_, _, _, _, _, hto, ⟨?_, ?_, fun hk => ?_⟩, ?_, ?_⟩
  · rw [esv, etv]
    exact SQ_congr h10 hAG
  · rw [hm]
    refine SI_congr (SI_61 ?_) hAG
    obtain ⟨i1, i2, i3, i4, i5, i6, i7, i8⟩ := hI
    unfold SI
    rw [k69, k54, k55, k45, hUo 50 (by decide), hUo 52 (by decide), hUo 70 (by decide), hUo 64 (by decide), hUo 44 (by decide), hUo 46 (by decide), hUo 42 (by decide), hUo 56 (by decide)]
    refine ⟨i1, i2, Or.inl rfl, ?_, i5, k49, ⟨Int.le_refl _, ?_, Int.le_refl _⟩, fun _ => ⟨Or.inr (Or.inl ⟨rfl, rfl, ?_⟩), fun w => absurd rfl w⟩⟩
    · rcases k67 with w | w
      · exact Or.inl w
      · rw [w]
        exact i4
    · show (ma 44 F).toInt ≤ (ma 46 F).toInt
      omega
    · show (ma 44 F).toInt < (ma 46 F).toInt
      omega
  · have h71 : a 71 = clr (ma 71) (200 * F) (200 * F + 200) := by rw [ha, va_up_ne _ _ (by decide), va_up_self]
    have hz : ∀ i, i < 200 → a 71 (200 * F + i) = 0 := fun i hi => by
      rw [h71]
      unfold clr
      exact if_pos ⟨by omega, by omega⟩
    have e44 : a 44 F = ma 44 F := (hcl 44 (by decide) (by decide)).trans (hUo 44 (by decide))
    refine ⟨fun i hi => ?_, ?_, fun i hi w => absurd (hz i hi) w, fun i hi _ => ?_, fun w => ?_⟩
    · rw [bt4_clear, hz i hi]
      exact ⟨(fun w => by cases w), fun w => absurd rfl w⟩
    · exact hz 0 (by omega)
    · rw [upd_a, mk_zero (fun j hj => hz j hj)]
      have b := h0
      exact ⟨fun w => absurd w (nn0 (by rw [e44]; omega)), fun w => by omega⟩
    · exact absurd ((hcl 54 (by decide) (by decide)).trans k54) w
  · rw [hm]
    refine RR_keep hR (fun k _ => rfl) (fun k hk => ?_) (fun i => ?_)
    · have n61 : k ≠ 61 := fun e => by rw [e] at hk; revert hk; decide
      have n71 : k ≠ 71 := fun e => by rw [e] at hk; revert hk; decide
      rw [ha, va_up_ne _ _ n61, va_up_ne _ _ n71]
      funext i
      by_cases e : i = F
      · rw [e, setc_at, hUo k (fun w => by revert hk w; simp only [List.mem_cons, List.not_mem_nil, or_false]; omega)]
        rfl
      · exact setc_ne e
    · rw [ha, va_up_ne _ _ (by decide), va_up_ne _ _ (by decide)]
      by_cases e : i = F
      · rw [e, setc_at, hUo 46 (by decide)]
        exact Int.le_refl _
      · rw [setc_ne e]
        exact Int.le_refl _
  · rw [hm, ha]
    refine ⟨fun _ _ => rfl, fun k i hk hi => ?_, by rw [va_up_ne _ _ (by decide), va_up_ne _ _ (by decide), setc_at, hUo 46 (by decide)]; exact Int.le_refl _⟩
    by_cases e : k = 61
    · rw [e, va_up_self]
      exact upd_b (by omega)
    · rw [va_up_ne _ _ e]
      by_cases e2 : k = 71
      · rw [e2, va_up_self]
        unfold clr
        exact if_neg (fun w => by omega)
      · rw [va_up_ne _ _ e2]
        by_cases e3 : i = F
        · rw [e3, setc_at, hUo k (fun w => by revert hi w; simp only [List.mem_cons, List.not_mem_nil, or_false]; omega)]
          rfl
        · exact setc_ne e3
