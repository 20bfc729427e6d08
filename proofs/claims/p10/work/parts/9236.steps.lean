theorem FQ_mi {F : Nat} {T : Int} {k0 g0 : Int32} {sv tv bv cv : Nat → Int32} {f g : Nat → Int64} {mi m : Nat → Int32} {ma : Nat → Nat → Int32} (h : FQ F T k0 g0 sv tv bv cv f g mi ma) (e : m 4 = mi 4) : FQ F T k0 g0 sv tv bv cv f g m ma := ⟨h.1, by rw [e]; exact h.2.1, h.2.2⟩
theorem c_one_k {sv tv : Nat → Int32} {g : Nat → Int64} {s t : Int32} {k : Nat} (h5 : k ≠ 5) (h15 : k ≠ 15) : (c_one sv tv g s t).1 k = sv k := by
  unfold c_one
  by_cases c : sv 5 ≤ s
  · rw [if_pos c]
    exact upd_b h5
  · rw [if_neg c]
    exact upd_b h15
theorem step_next {F : Nat} (hF : F < 4) {T : Int} {k0 g0 : Int32} {sv tv bv cv : Nat → Int32} {f g : Nat → Int64} {mi : Nat → Int32} {ma : Nat → Nat → Int32} {ov tf : Nat → Int32} {go : Option S4} {gq : List S3} (h : FQ F T k0 g0 sv tv bv cv f g mi ma) (hR : RR ov tf go gq mi ma) (hT : T = (mi 4).toInt + 1) (b0 : 0 ≤ (mi 4).toInt) (b1 : 0 ≤ (mi 30).toInt) (b2 : (mi 30).toInt ≤ 64) (b3 : 0 ≤ (mi 1).toInt) (b4 : (mi 1).toInt ≤ 100) (hs : (ma 45 F).toInt < 2147483647) : ∃ svt tvt gt ov2 tf2 go2 gq2 m1 a1, xc_transmit ov go gq tf (nI F) k0 g0 sv tv bv cv f g (ma 45 F) (mi 4) = (svt, tvt, bv, cv, f, gt, ov2, tf2, go2, gq2) ∧ svt 4 = ma 45 F ∧ x_sendsOne (nI F) (ma 45 F) mi ma = (m1, a1, 0) ∧ FQ F T k0 g0 (upd svt 4 (svt 4 + 1)) tvt bv cv f gt m1 (va_up a1 45 (upd (a1 45) F (a1 45 F + 1))) ∧ RR ov2 tf2 go2 gq2 m1 (va_up a1 45 (upd (a1 45) F (a1 45 F + 1))) ∧ SFR F mi ma m1 (va_up a1 45 (upd (a1 45) F (a1 45 F + 1))) ∧ m1 4 = mi 4 := by
  obtain ⟨hS, hI, hB⟩ := h
  obtain ⟨ov2, tf2, go2, gq2, m1, a1, x1, x2, x3, x4, x5, x6, x7, x8, x9⟩ := TX hF (bv := bv) (f := f) (g := g) hS hR b1 b2 b3 b4 hs
  have e45 : a1 45 F = ma 45 F := (x6 45 (by decide) (by decide)).trans (v_one_UF 45 (by decide))
  have e44 : a1 44 F = ma 44 F := (x6 44 (by decide) (by decide)).trans (v_one_UF 44 (by decide))
  have e54 : a1 54 F = ma 54 F := (x6 54 (by decide) (by decide)).trans (v_one_UF 54 (by decide))
  have e56 : a1 56 F = ma 56 F := (x6 56 (by decide) (by decide)).trans (v_one_UF 56 (by decide))
  have e46 : (ma 46 F).toInt ≤ (a1 46 F).toInt := by
    have := (one46 (t := mi 4) (u := col ma F) hs).1
    rw [← x6 46 (by decide) (by decide)] at this
    exact this
  have s4 : (c_one sv tv g (ma 45 F) (mi 4)).1 4 = ma 45 F := by rw [c_one_k (by decide) (by decide)]; exact SQ_s4 hS
  have m4 : m1 4 = mi 4 := x9 4 (by decide)
  have hSFR : SFR F mi ma m1 (va_up a1 45 (upd (a1 45) F (a1 45 F + 1))) := SFR_trans x5 (SFR_up (by decide) (by decide) (by decide))
  refine ⟨_, _, _, ov2, tf2, go2, gq2, m1, a1, x1, s4, x2, ⟨?_, ?_, fun hk => ?_⟩, ?_, hSFR, m4⟩
  · rw [col_up]
    exact SQ_us4 x4 (by rw [s4, e45])
  · rw [m4]
    refine SI_next hI b0 (by omega) hs (u2 := col (va_up a1 45 (upd (a1 45) F (a1 45 F + 1))) F) ?_
    rw [col_up, e45]
    exact AG_upd x6
  · have hBQ := hB hk
    refine BQ_keep hBQ (by rw [va_up_ne _ _ (by decide)]; exact e44) (fun i hi => by rw [va_up_ne _ _ (by decide), x7]) (by rw [va_up_ne _ _ (by decide)]; exact e46) (fun hr => ?_)
    rw [va_up_ne _ _ (by decide), e54] at hr
    have q := (hI.2.2.2.2.2.2.2 (by show ma 42 F = 3; rw [← hk]; exact (SQ_k hS).symm)).2 hr
    have hg : (c_one sv tv g (ma 45 F) (mi 4)).2.2 = g := by
      unfold c_one
      rw [if_pos (show sv 5 ≤ ma 45 F by rw [show sv 5 = ma 46 F from SQ_s5 hS, show ma 45 F = ma 46 F from q.1]; exact Int32.le_refl _)]
    obtain ⟨r1, r2⟩ := hBQ.2.2.2.2 hr
    rw [hg]
    refine ⟨by rw [va_up_ne _ _ (by decide), e56]; exact r1, RSq_grow r2 (by rw [va_up_ne _ _ (by decide)]; exact e44) (by rw [va_up_ne _ _ (by decide)]; exact e56) (fun i hi => by rw [va_up_ne _ _ (by decide), x8]) (by rw [va_up_ne _ _ (by decide)]; exact e46) ?_⟩
    have a1 : (ma 44 F).toInt < (ma 55 F).toInt := q.2.2.1
    have a2 : (ma 55 F).toInt ≤ (ma 56 F).toInt + 200 := q.2.2.2.1
    omega
  · refine RR_keep x3 (fun k _ => rfl) (fun k hk => va_up_ne _ _ (fun e => by rw [e] at hk; revert hk; decide)) (fun i => by rw [va_up_ne _ _ (by decide)]; exact Int.le_refl _)
/-- what is lost is sent again -/
theorem step_lost {F : Nat} (hF : F < 4) {T : Int} {k0 g0 : Int32} {sv tv bv cv : Nat → Int32} {f g : Nat → Int64} {mi : Nat → Int32} {ma : Nat → Nat → Int32} {ov tf : Nat → Int32} {go : Option S4} {gq : List S3} {s : Nat} (h : FQ F T k0 g0 sv tv bv cv f g mi ma) (hR : RR ov tf go gq mi ma) (b1 : 0 ≤ (mi 30).toInt) (b2 : (mi 30).toInt ≤ 64) (b3 : 0 ≤ (mi 1).toInt) (b4 : (mi 1).toInt ≤ 100) (hn : NB F ma) (s1 : (ma 44 F).toInt ≤ s) (s2 : (s : Int) < (ma 46 F).toInt) (hr : k0 = 3 → ¬ ma 54 F = 0 → (ma 56 F).toInt ≤ (ma 44 F).toInt) : ∃ svt tvt gt ov2 tf2 go2 gq2 m1 a1, xc_transmit ov go gq tf (nI F) k0 g0 sv tv bv cv f g (nI s) (mi 4) = (svt, tvt, bv, cv, f, gt, ov2, tf2, go2, gq2) ∧ (∀ k, k ≠ 5 → k ≠ 15 → svt k = sv k) ∧ x_sendsAgain (nI F) (nI s) mi ma = (m1, a1, 0) ∧ FQ F T k0 g0 svt tvt bv cv f gt m1 a1 ∧ RR ov2 tf2 go2 gq2 m1 a1 ∧ SFR F mi ma m1 a1 ∧ m1 4 = mi 4 ∧ UF [46, 59, 61, 69, 70] (col ma F) (fun k => if 42 ≤ k ∧ k ≤ 70 then a1 k F else ma k F) ∧ a1 46 F = ma 46 F := by
  obtain ⟨hS, hI, hB⟩ := h
  obtain ⟨n1, n2, n3, n4⟩ := hn
  have hF2 : (nI F).toNatClampNeg = F := nI_clamp (by omega)
  have es : (nI s).toInt = s := nI_toInt (by omega)
  have ir : (512 * nI F + (nI s - nI s / 512 * 512)).toNatClampNeg = 512 * F + s % 512 := by
    rw [mul512 hF, mod512 (by omega), nI_add, nI_clamp (by omega)]
  obtain ⟨a4, ha4⟩ : ∃ y, y = va_up ma 72 (upd (ma 72) (512 * F + s % 512) 1) := ⟨_, rfl⟩
  have k4 : ∀ k, k ≠ 72 → a4 k = ma k := fun k hk => by rw [ha4]; exact va_up_ne _ _ hk
  have hS4 : SQ sv tv cv k0 g0 (col a4 F) := SQ_congr hS (fun k h1 h2 => congrFun (k4 k (by omega)) F)
  have hR4 : RR ov tf go gq mi a4 := RR_keep hR (fun k _ => rfl) (fun k hk => k4 k (fun e => by rw [e] at hk; revert hk; decide)) (fun i => by rw [k4 46 (by decide)]; exact Int.le_refl _)
  obtain ⟨ov2, tf2, go2, gq2, m1, a1, x1, x2, x3, x4, x5, x6, x7, x8, x9⟩ := TX hF (bv := bv) (f := f) (g := g) (s := nI s) hS4 hR4 b1 b2 b3 b4 (by omega)
  have hA4 : AG (col ma F) (col a4 F) := fun k h1 h2 => congrFun (k4 k (by omega)) F
  have hAG : AG (v_one (nI s) (mi 4) (col ma F)) (col a1 F) := fun k h1 h2 => (x6 k h1 h2).trans (v_one_AG hA4 k h1 h2)
  have hhs : ¬ col ma F 46 ≤ nI s := fun w => by
    have := Int32.le_iff_toInt_le.mp w
    rw [es] at this
    have e : (col ma F 46).toInt = (ma 46 F).toInt := rfl
    omega
  have e46 : a1 46 F = ma 46 F := by
    have := hAG 46 (by decide) (by decide)
    rw [v_one_46, if_neg hhs] at this
    exact this
  have e44 : a1 44 F = ma 44 F := (hAG 44 (by decide) (by decide)).trans (v_one_UF 44 (by decide))
  have e54 : a1 54 F = ma 54 F := (hAG 54 (by decide) (by decide)).trans (v_one_UF 54 (by decide))
  have e56 : a1 56 F = ma 56 F := (hAG 56 (by decide) (by decide)).trans (v_one_UF 56 (by decide))
  have m4 : m1 4 = mi 4 := x9 4 (by decide)
  refine ⟨_, _, _, ov2, tf2, go2, gq2, m1, a1, x1, fun k h5 h15 => c_one_k h5 h15, ?_, ⟨x4, ?_, fun hk => ?_⟩, x3, ?_, m4, fun k hk => ?_, e46⟩
  · unfold x_sendsAgain
    simp only [bd_eq]
    rw [ir, show vp_nar .boolean (1 : Int32) = 1 from rfl, ← ha4, x2, bc_eq]
  · rw [m4]
    exact SI_again hI hhs hAG
  · have hBQ := hB hk
    refine BQ_keep hBQ e44 (fun i hi => by rw [x7, k4 71 (by decide)]) (by rw [e46]; exact Int.le_refl _) (fun hr2 => ?_)
    rw [e54] at hr2
    have hg : (c_one sv tv g (nI s) (mi 4)).2.2 = xc_put g (nI s) := by
      unfold c_one
      rw [if_neg (show ¬ sv 5 ≤ nI s by rw [show sv 5 = ma 46 F from SQ_s5 hS]; exact hhs)]
    obtain ⟨r1, r2⟩ := hBQ.2.2.2.2 hr2
    rw [hg]
    refine ⟨by rw [e56]; exact r1, RSq_put r2 e44 e56 e46 (fun i hi => ?_) s1 s2 (hr hk hr2) n4 (by omega)⟩
    rw [x8, ha4, va_up_self]
    by_cases e : i = s % 512
    · rw [if_pos e, e, upd_a]
    · rw [if_neg e, upd_b (by omega)]
  · refine SFR_trans ?_ x5
    rw [ha4]
    refine SFR_72 (fun i hi => upd_b (fun e => hi ?_))
    rw [e]
    omega
  · by_cases c : 42 ≤ k ∧ k ≤ 70
    · show (if 42 ≤ k ∧ k ≤ 70 then a1 k F else ma k F) = ma k F
      rw [if_pos c]
      exact (hAG k c.1 c.2).trans (v_one_UF k hk)
    · show (if 42 ≤ k ∧ k ≤ 70 then a1 k F else ma k F) = ma k F
      rw [if_neg c]
