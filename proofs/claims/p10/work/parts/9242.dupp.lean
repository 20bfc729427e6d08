def v_w (mi u : Nat → Int32) : Nat → Int32 := upd (v_loses mi (upd (upd (upd u 53 (u 53 + 1)) 54 1) 58 (u 58 + 1))).1 55 (u 46)
theorem v_w_k {mi u : Nat → Int32} {k : Nat} (h : k ∉ ([53, 54, 58, 48, 63, 67, 55] : List Nat)) : v_w mi u k = u k := by
  have n : ∀ j, j ∈ ([53, 54, 58, 48, 63, 67, 55] : List Nat) → k ≠ j := fun j hj e => h (e ▸ hj)
  unfold v_w
  rw [upd_b (n 55 (by decide)), v_loses_UF k (fun w => h (by revert w; exact sub_of (by decide) k)), upd_b (n 58 (by decide)), upd_b (n 54 (by decide)), upd_b (n 53 (by decide))]
theorem dup_eq {F : Nat} (hF : F < 4) {mi : Nat → Int32} {ma : Nat → Nat → Int32} : x_duplicate (nI F) mi ma = if ma 54 F = 0 then (if ma 53 F + 1 = 3 ∧ (ma 42 F = 0 ∨ ma 55 F ≤ ma 44 F) then dtail F mi (va_up (setc ma F (v_w mi (col ma F))) 72 (clr (ma 72) (512 * F) (512 * F + 512))) else (mi, setc ma F (upd (col ma F) 53 (ma 53 F + 1)), 0)) else if ma 42 F = 3 then (mi, setc ma F (upd (col ma F) 53 (ma 53 F + 1)), 0) else (mi, setc ma F (v_opens (ma 47 F + 1024) mi (upd (col ma F) 53 (ma 53 F + 1))).1, 0) := by
  have hF2 : (nI F).toNatClampNeg = F := nI_clamp (by omega)
  obtain ⟨u, hu⟩ : ∃ u, u = col ma F := ⟨_, rfl⟩
  have hm : ma = setc ma F u := by rw [hu, setc_col]
  have hk : ∀ k, ma k F = u k := fun k => by rw [hu]; rfl
  have hL := fun (w : Nat → Int32) => x_loses_v (nI F) F hF2 mi ma w
  have hO := fun (n : Int32) (w : Nat → Int32) => x_opens_v (nI F) n F hF2 mi ma w
  have hS : ∀ x, x = v_w mi u → x_duplicate_116 (nI F) 513 mi (setc ma F x) 0 = dtail F mi (va_up (setc ma F (v_w mi u)) 72 (clr (ma 72) (512 * F) (512 * F + 512))) := by
    intro x hx
    have := dup116 hF (mi := mi) 513 0 (setc ma F x) (by omega) (by omega)
    rw [show nI 0 = (0 : Int32) by decide] at this
    have k72 : setc ma F x 72 = ma 72 := by
      funext i
      by_cases e : i = F
      · rw [e, setc_at, hx, v_w_k (by decide), hu]
        rfl
      · exact setc_ne e
    rw [this, k72, hx]
    rfl
  rw [hk 54, hk 53, hk 42, hk 55, hk 44, hk 47, ← hu]
  conv => lhs; rw [hm]
  unfold x_duplicate
  simp only [bd_eq, hF2, up_setc, setc_at, hL, hO, bc_lf, show vp_nar .boolean (1 : Int32) = 1 from rfl]
  have e46 : (v_loses mi (upd (upd (upd u 53 (u 53 + 1)) 54 1) 58 (u 58 + 1))).1 46 = u 46 := by
    rw [v_loses_UF 46 (by decide), upd_b (by decide), upd_b (by decide), upd_b (by decide)]
  simp (decide := true) only [upd_a, upd_b, ne_eq, not_false_eq_true]
  rw [e46, hS (upd (v_loses mi (upd (upd (upd u 53 (u 53 + 1)) 54 1) 58 (u 58 + 1))).1 55 (u 46)) rfl]
  by_cases c1 : u 54 = 0
  · rw [if_pos c1, if_pos c1]
    by_cases c2 : u 53 + 1 = 3
    · rw [if_pos c2]
      by_cases c3 : u 42 = 0
      · rw [if_pos c3, if_pos (show u 53 + 1 = 3 ∧ (u 42 = 0 ∨ u 55 ≤ u 44) from ⟨c2, Or.inl c3⟩)]
      · rw [if_neg c3]
        by_cases c4 : u 55 ≤ u 44
        · rw [if_pos c4, if_pos (show u 53 + 1 = 3 ∧ (u 42 = 0 ∨ u 55 ≤ u 44) from ⟨c2, Or.inr c4⟩)]
        · rw [if_neg c4, if_neg (show ¬ (u 53 + 1 = 3 ∧ (u 42 = 0 ∨ u 55 ≤ u 44)) from fun w => by rcases w.2 with w | w; exact c3 w; exact c4 w)]
    · rw [if_neg c2, if_neg (show ¬ (u 53 + 1 = 3 ∧ (u 42 = 0 ∨ u 55 ≤ u 44)) from fun w => c2 w.1)]
  · rw [if_neg c1, if_neg c1]
/-- a recovery's beginning: sender, boards, road -/
theorem begin_pair {F : Nat} (hF : F < 4) {T : Int} {k0 g0 : Int32} {sv tv bv cv : Nat → Int32} {f g : Nat → Int64} {mi : Nat → Int32} {ma : Nat → Nat → Int32} {ov tf : Nat → Int32} {go : Option S4} {gq : List S3} (h : FQ F T k0 g0 sv tv bv cv f g mi ma) (hR : RR ov tf go gq mi ma) (hn : NB F ma) (b1 : 0 ≤ (mi 30).toInt) (b2 : (mi 30).toInt ≤ 64) (b3 : 0 ≤ (mi 1).toInt) (b4 : (mi 1).toInt ≤ 100) (hnu : (ma 44 F).toInt < (ma 45 F).toInt) (hr0 : ma 54 F = 0) (hst : ma 42 F = 0 ∨ ma 55 F ≤ ma 44 F) : ∃ m a sv2 tv2 bv2 cv2 g2 ov2 tf2 go2 gq2, dtail F mi (va_up (setc ma F (v_w mi (col ma F))) 72 (clr (ma 72) (512 * F) (512 * F + 512))) = (m, a, 0) ∧ xc_beginRec ov go gq tf (nI F) k0 g0 (upd sv 10 (sv 10 + 1)) tv bv cv f g (mi 4) = (sv2, tv2, bv2, cv2, f, g2, ov2, tf2, go2, gq2) ∧ FQ F T k0 g0 sv2 tv2 bv2 cv2 f g2 m a ∧ RR ov2 tf2 go2 gq2 m a ∧ SFR F mi ma m a := by
  obtain ⟨hS, hI, hB⟩ := h
  have hn' := hn
  obtain ⟨n1, n2, n3, n4⟩ := hn
  have q : (ma 44 F).toInt ≤ (ma 45 F).toInt ∧ (ma 45 F).toInt ≤ (ma 46 F).toInt ∧ (ma 55 F).toInt ≤ (ma 46 F).toInt := hI.2.2.2.2.2.2.1
  obtain ⟨a0, ha0⟩ : ∃ y, y = va_up (va_up (setc ma F (v_w mi (col ma F))) 72 (clr (ma 72) (512 * F) (512 * F + 512))) 56 (upd (va_up (setc ma F (v_w mi (col ma F))) 72 (clr (ma 72) (512 * F) (512 * F + 512)) 56) F (ma 44 F)) := ⟨_, rfl⟩
  have hcol : ∀ k, k ≠ 56 → k ≠ 72 → a0 k F = v_w mi (col ma F) k := fun k e1 e2 => by rw [ha0, va_up_ne _ _ e1, va_up_ne _ _ e2, setc_at]
  have h56 : a0 56 F = ma 44 F := by rw [ha0, va_up_self, upd_a]
  have h72 : a0 72 = clr (ma 72) (512 * F) (512 * F + 512) := by rw [ha0, va_up_ne _ _ (by decide), va_up_self]
  have hout : ∀ k, (k ∉ ([53, 54, 58, 48, 63, 67, 55, 56, 72] : List Nat)) → a0 k = ma k := fun k hk => by
    have e1 : k ≠ 56 := fun e => hk (by rw [e]; decide)
    have e2 : k ≠ 72 := fun e => hk (by rw [e]; decide)
    rw [ha0, va_up_ne _ _ e1, va_up_ne _ _ e2]
    funext i
    by_cases e : i = F
    · rw [e, setc_at, v_w_k (fun w => hk (by revert w; exact sub_of (by decide) k))]
      rfl
    · exact setc_ne e
  have hAG : AG (upd (v_w mi (col ma F)) 56 (ma 44 F)) (col a0 F) := fun k k1 k2 => by
    by_cases e : k = 56
    · rw [e, upd_a]
      exact h56
    · rw [upd_b e]
      exact hcol k e (by omega)
  have hSFR : SFR F mi ma mi a0 := by
    refine ⟨fun _ _ => rfl, fun k i hk hi => ?_, by rw [hout 46 (by decide)]; exact Int.le_refl _⟩
    by_cases e1 : k = 56
    · rw [ha0, e1, va_up_self, upd_b (by omega), va_up_ne _ _ (by decide), setc_ne (by omega)]
    · by_cases e2 : k = 72
      · rw [e2, h72]
        unfold clr
        exact if_neg (fun w => by omega)
      · rw [ha0, va_up_ne _ _ e1, va_up_ne _ _ e2]
        by_cases e : i = F
        · rw [e, setc_at, v_w_k (fun w => by revert hi w; simp only [List.mem_cons, List.not_mem_nil, or_false]; omega)]
          rfl
        · exact setc_ne e
  have s1 := SQ_us10 hS (show sv 10 + 1 = col ma F 53 + 1 by rw [SQ_s10 hS])
  have s2 := SQ_us11 s1 (rfl : (1 : Int32) = 1)
  have s3 := SQ_us14 s2 (show sv 14 + 1 = col ma F 58 + 1 by rw [SQ_s14 hS])
  have s4 := SQ_lossC (mi := mi) s3
  simp (decide := true) only [upd_b, ne_eq, not_false_eq_true] at s4
  have s5 : SQ (upd (upd (upd (upd (upd sv 10 (sv 10 + 1)) 11 1) 14 (sv 14 + 1)) 8 (lossC k0 (sv 6) (sv 4) (sv 3) cv).2) 12 (sv 5)) tv (lossC k0 (sv 6) (sv 4) (sv 3) cv).1 k0 g0 (v_w mi (col ma F)) := SQ_us12 s4 (SQ_s5 hS)
  have s6 := SQ_congr (SQ_x56 (w := ma 44 F) s5) hAG
  have esv : upd (upd (upd (upd (upd sv 10 (sv 10 + 1)) 11 1) 14 (sv 14 + 1)) 8 (lossC k0 (sv 6) (sv 4) (sv 3) cv).2) 12 (sv 5) = upd (upd (upd (upd (upd sv 10 (sv 10 + 1)) 8 (lossC k0 (sv 6) (sv 4) (sv 3) cv).2) 11 1) 14 (sv 14 + 1)) 12 (sv 5) := by
    rw [upd_comm (show (14 : Nat) ≠ 8 by decide), upd_comm (show (11 : Nat) ≠ 8 by decide)]
  rw [esv] at s6
  have k45 : (ma 42 F = 3 → ma 45 F = ma 46 F) := by
    intro k3
    have k0n : ¬ ma 42 F = 0 := fun w => by rw [w] at k3; revert k3; decide
    have hle := Int32.le_iff_toInt_le.mp (hst.resolve_left k0n)
    rcases (hI.2.2.2.2.2.2.2 k3).1 with w | w | w
    · exact w
    · exfalso
      have w3 : (ma 44 F).toInt < (ma 55 F).toInt := w.2.2
      omega
    · exfalso
      have w2 : (ma 45 F).toInt = (ma 44 F).toInt := congrArg Int32.toInt w.2.1
      omega
  have k67 : v_w mi (col ma F) 67 = -1 ∨ v_w mi (col ma F) 67 = ma 67 F := by
    have e : v_w mi (col ma F) 67 = (v_loses mi (upd (upd (upd (col ma F) 53 (col ma F 53 + 1)) 54 1) 58 (col ma F 58 + 1))).1 67 := by
      unfold v_w
      rw [upd_b (by decide)]
    rw [e]
    rcases v_loses_67 (mi := mi) (u := upd (upd (upd (col ma F) 53 (col ma F 53 + 1)) 54 1) 58 (col ma F 58 + 1)) with w | w
    · exact Or.inl w
    · refine Or.inr (w.trans ?_)
      rw [upd_b (by decide), upd_b (by decide), upd_b (by decide)]
      rfl
  have k54 : v_w mi (col ma F) 54 = 1 := by
    unfold v_w
    rw [upd_b (by decide), v_loses_UF 54 (by decide), upd_b (by decide), upd_a]
  have k55 : v_w mi (col ma F) 55 = ma 46 F := by
    unfold v_w
    rw [upd_a]
    rfl
  have hFQ : FQ F T k0 g0 (upd (upd (upd (upd (upd sv 10 (sv 10 + 1)) 8 (lossC k0 (sv 6) (sv 4) (sv 3) cv).2) 11 1) 14 (sv 14 + 1)) 12 (sv 5)) tv (upd bv 3 (sv 3)) (lossC k0 (sv 6) (sv 4) (sv 3) cv).1 f (xc_clear g) mi a0 := by
    refine ⟨s6, SI_congr ?_ hAG, fun hk => ?_⟩
    · have hU := fun k => v_w_k (mi := mi) (u := col ma F) (k := k)
      obtain ⟨i1, i2, i3, i4, i5, i6, i7, i8⟩ := hI
      unfold SI
      simp (decide := true) only [upd_a, upd_b, ne_eq, not_false_eq_true]
      rw [k54, k55, hU 50 (by decide), hU 52 (by decide), hU 69 (by decide), hU 70 (by decide), hU 64 (by decide), hU 49 (by decide), hU 44 (by decide), hU 45 (by decide), hU 46 (by decide), hU 42 (by decide)]
      refine ⟨i1, i2, i3, ?_, i5, i6, ⟨q.1, q.2.1, Int.le_refl _⟩, fun k3 => ⟨Or.inl (k45 k3), fun _ => ⟨k45 k3, Int.le_refl _, ?_, n4, n1⟩⟩⟩
      · rcases k67 with w | w
        · exact Or.inl w
        · rw [w]
          exact i4
      · show (ma 44 F).toInt < (ma 46 F).toInt
        omega
    · have hBQ := hB hk
      have e44 : a0 44 F = ma 44 F := by rw [hout 44 (by decide)]
      have e46 : a0 46 F = ma 46 F := by rw [hout 46 (by decide)]
      have hz : ∀ i, i < 512 → a0 72 (512 * F + i) = 0 := fun i hi => by
        rw [h72]
        unfold clr
        exact if_pos ⟨by omega, by omega⟩
      have hb2 := BQ_keep (a := a0) (g2 := xc_clear g) (bv := bv) hBQ e44 (fun i _ => by rw [hout 71 (by decide)]) (by rw [e46]; exact Int.le_refl _)
      obtain ⟨p1, p2, p3, p4, _⟩ := hBQ
      refine ⟨fun i hi => by rw [e44, hout 71 (by decide)]; exact p1 i hi, by rw [hout 71 (by decide)]; exact p2, fun i hi w => by rw [hout 71 (by decide)] at w; rw [e44, e46]; exact p3 i hi w, by rw [e44, hout 71 (by decide), upd_b (by decide)]; exact p4, fun _ => ⟨?_, fun m _ _ => ?_, fun m _ _ => hz _ (by omega)⟩⟩
      · rw [upd_a, h56]
        exact SQ_s3 hS
      · rw [bt4_clear, hz _ (by omega)]
        exact ⟨(fun w => by cases w), fun w => absurd rfl w.2⟩
  have hRR : RR ov tf go gq mi a0 := RR_keep hR (fun k _ => rfl) (fun k hk => hout k (fun w => by revert hk w; simp only [List.mem_cons, List.not_mem_nil, or_false]; omega)) (fun i => by rw [hout 46 (by decide)]; exact Int.le_refl _)
  have e44 : a0 44 F = ma 44 F := by rw [hout 44 (by decide)]
  have e46 : a0 46 F = ma 46 F := by rw [hout 46 (by decide)]
  have hU : ma 44 F = nI (ma 44 F).toInt.toNat := nIof n1
  obtain ⟨svt, tvt, gt, ov2, tf2, go2, gq2, m1, a1, x1, x2, x3, x4, x5, x6, x7, _⟩ := step_lost hF (s := (ma 44 F).toInt.toNat) hFQ hRR b1 b2 b3 b4 (by unfold NB; rw [e44, e46]; exact hn') (by rw [e44]; omega) (by rw [e46]; omega) (fun _ _ => by rw [h56, e44]; exact Int.le_refl _)
  rw [← hU] at x1 x3
  have hd : dtail F mi (va_up (setc ma F (v_w mi (col ma F))) 72 (clr (ma 72) (512 * F) (512 * F + 512))) = if a1 42 F = 3 then (m1, setc a1 F (v_opens (a1 48 F + 0) m1 (col a1 F)).1, 0) else (m1, setc a1 F (v_opens (a1 48 F + 3072) m1 (col a1 F)).1, 0) := by
    unfold dtail
    have k44 : va_up (setc ma F (v_w mi (col ma F))) 72 (clr (ma 72) (512 * F) (512 * F + 512)) 44 F = ma 44 F := by
      rw [va_up_ne _ _ (by decide), setc_at, v_w_k (by decide)]
      rfl
    rw [k44, ← ha0, x3, bc_eq]
  rw [hd]
  have e42 : a1 42 F = k0 := (SQ_k x4.1).symm
  have e48 : svt 8 = a1 48 F := SQ_s8 x4.1
  by_cases c : k0 = 3
  · obtain ⟨sv3, y1, y2, y3⟩ := FQ_open (n0 := nI F) (n := a1 48 F + 0) x4
    refine ⟨m1, _, sv3, tvt, upd bv 3 (sv 3), _, gt, ov2, tf2, go2, gq2, by rw [if_pos (e42.trans c)], ?_, y2, RR_c x5 v_opens_UF (by decide), SFR_trans (SFR_trans hSFR x6) (SFR_c v_opens_UF (by decide))⟩
    unfold xc_beginRec xc_bbegin
    simp only [bd_eq, xc_loss_eq]
    simp (decide := true) only [upd_a, upd_b, ne_eq, not_false_eq_true]
    rw [show sv 3 = ma 44 F from SQ_s3 hS] at x1 y1 ⊢
    rw [x1, if_pos c]
    simp only []
    rw [e48, ← Int32.add_zero (a1 48 F), y1]
  · obtain ⟨sv3, y1, y2, y3⟩ := FQ_open (n0 := nI F) (n := a1 48 F + 3072) x4
    refine ⟨m1, _, sv3, tvt, upd bv 3 (sv 3), _, gt, ov2, tf2, go2, gq2, by rw [if_neg (fun w => c (e42.symm.trans w))], ?_, y2, RR_c x5 v_opens_UF (by decide), SFR_trans (SFR_trans hSFR x6) (SFR_c v_opens_UF (by decide))⟩
    unfold xc_beginRec xc_bbegin
    simp only [bd_eq, xc_loss_eq]
    simp (decide := true) only [upd_a, upd_b, ne_eq, not_false_eq_true]
    rw [show sv 3 = ma 44 F from SQ_s3 hS] at x1 y1 ⊢
    rw [x1, if_neg c]
    simp only []
    rw [e48, y1]
theorem dup_pair {F : Nat} (hF : F < 4) {T : Int} {k0 g0 n1 i4 i6 : Int32} {pk : A6} {sv tv bv cv : Nat → Int32} {f g : Nat → Int64} {mi : Nat → Int32} {ma : Nat → Nat → Int32} {ov tf : Nat → Int32} {go : Option S4} {gq : List S3} (h : FQ F T k0 g0 sv tv bv cv f g mi ma) (hR : RR ov tf go gq mi ma) (hn : NB F ma) (b1 : 0 ≤ (mi 30).toInt) (b2 : (mi 30).toInt ≤ 64) (b3 : 0 ≤ (mi 1).toInt) (b4 : (mi 1).toInt ≤ 100) (hnu : (ma 44 F).toInt < (ma 45 F).toInt) (h6 : i6 ≤ 0) : ∃ m a sv2 tv2 bv2 cv2 g2 ov2 tf2 go2 gq2, x_duplicate (nI F) mi ma = (m, a, 0) ∧ xc_hear_140 ov go gq tf (nI F) k0 g0 pk n1 sv tv bv f g cv (mi 4) i4 1 i6 = (sv2, tv2, bv2, cv2, f, g2, ov2, tf2, go2, gq2) ∧ FQ F T k0 g0 sv2 tv2 bv2 cv2 f g2 m a ∧ RR ov2 tf2 go2 gq2 m a ∧ SFR F mi ma m a := by
  have hS := h.1
  have hI := h.2.1
  have hB := h.2.2
  have e10 : sv 10 = ma 53 F := SQ_s10 hS
  have e11 : sv 11 = ma 54 F := SQ_s11 hS
  have e3 : sv 3 = ma 44 F := SQ_s3 hS
  have e12 : sv 12 = ma 55 F := SQ_s12 hS
  have e6 : sv 6 = ma 47 F := SQ_s6 hS
  have ek : k0 = ma 42 F := SQ_k hS
  rw [dup_eq hF]
  unfold xc_hear_140
  rw [if_pos h6, if_neg (show ¬ (1 : Int32) = 0 by decide)]
  simp only [bd_eq, xc_dup_eq]
  have hU1 : UF [53] (col ma F) (upd (col ma F) 53 (ma 53 F + 1)) := UF_upd UF_refl (by decide)
  have s1 := SQ_us10 hS (show sv 10 + 1 = ma 53 F + 1 by rw [e10])
  have hFQ1 : FQ F T k0 g0 (upd sv 10 (sv 10 + 1)) tv bv cv f g mi (setc ma F (upd (col ma F) 53 (ma 53 F + 1))) := ⟨by rw [col_setc]; exact s1, by rw [col_setc]; exact SI_UF hI hU1 (by decide), fun hk => BQ_c (hB hk) hU1 (by decide)⟩
  by_cases c1 : ma 54 F = 0
  · have c1' : sv 11 = 0 := e11.trans c1
    have nd : ¬ (¬ sv 11 = 0 ∧ ¬ k0 = 3) := fun w => w.1 c1'
    simp only [if_neg nd, xc_starts_eq]
    rw [if_pos c1]
    simp (decide := true) only [upd_a, upd_b, ne_eq, not_false_eq_true]
    by_cases c2 : ma 53 F + 1 = 3 ∧ (ma 42 F = 0 ∨ ma 55 F ≤ ma 44 F)
    · have c2' : sv 11 = 0 ∧ sv 10 + 1 = 3 ∧ (k0 = 0 ∨ ¬ sv 3 < sv 12) := ⟨c1', by rw [e10]; exact c2.1, by rw [ek, e3, e12]; exact c2.2.imp id Int32.not_lt.mpr⟩
      rw [if_pos c2]
      obtain ⟨m, a, sv2, tv2, bv2, cv2, g2, ov2, tf2, go2, gq2, x1, x2, x3, x4, x5⟩ := begin_pair hF h hR hn b1 b2 b3 b4 hnu c1 c2.2
      simp (decide := true) only [if_pos c2', ↓reduceIte]
      rw [x1, x2]
      exact ⟨m, a, sv2, tv2, bv2, cv2, g2, ov2, tf2, go2, gq2, rfl, rfl, x3, x4, x5⟩
    · have c2' : ¬ (sv 11 = 0 ∧ sv 10 + 1 = 3 ∧ (k0 = 0 ∨ ¬ sv 3 < sv 12)) := fun w => c2 ⟨by rw [← e10]; exact w.2.1, by rw [← ek, ← e3, ← e12]; exact w.2.2.imp id Int32.not_lt.mp⟩
      rw [if_neg c2]
      simp (decide := true) only [if_neg c2', ↓reduceIte]
      exact ⟨_, _, _, _, _, _, _, _, _, _, _, rfl, rfl, hFQ1, RR_c hR hU1 (by decide), SFR_c hU1 (by decide)⟩
  · have c1' : ¬ sv 11 = 0 := fun w => c1 (e11.symm.trans w)
    rw [if_neg c1]
    by_cases c2 : k0 = 3
    · have nd : ¬ (¬ sv 11 = 0 ∧ ¬ k0 = 3) := fun w => w.2 c2
      simp only [if_neg nd, xc_starts_eq]
      simp (decide := true) only [upd_a, upd_b, ne_eq, not_false_eq_true]
      have ns : ¬ (sv 11 = 0 ∧ sv 10 + 1 = 3 ∧ (k0 = 0 ∨ ¬ sv 3 < sv 12)) := fun w => c1' w.1
      rw [if_pos (show ma 42 F = 3 from ek.symm.trans c2)]
      simp (decide := true) only [if_neg ns, ↓reduceIte]
      exact ⟨_, _, _, _, _, _, _, _, _, _, _, rfl, rfl, hFQ1, RR_c hR hU1 (by decide), SFR_c hU1 (by decide)⟩
    · have nd : ¬ sv 11 = 0 ∧ ¬ k0 = 3 := ⟨c1', c2⟩
      obtain ⟨sv3, y1, y2, y3⟩ := FQ_open (n0 := nI F) (n := ma 47 F + 1024) hFQ1
      rw [col_setc, setc_setc] at y2
      have hU2 : UF [53, 47, 68] (col ma F) (v_opens (ma 47 F + 1024) mi (upd (col ma F) 53 (ma 53 F + 1))).1 := UF_trans (UF_mono hU1 (by decide)) (UF_mono v_opens_UF (by decide))
      rw [e6]
      simp only [if_pos nd, y1, xc_starts_eq]
      have ns : ¬ (sv3 11 = 0 ∧ sv3 10 = 3 ∧ (k0 = 0 ∨ ¬ sv3 3 < sv3 12)) := fun w => c1' (by rw [y3 11 (by decide) (by decide), upd_b (by decide)] at w; exact w.1)
      rw [if_neg (show ¬ ma 42 F = 3 from fun w => c2 (ek.trans w))]
      simp (decide := true) only [if_neg ns, ↓reduceIte]
      exact ⟨_, _, _, _, _, _, _, _, _, _, _, rfl, rfl, y2, RR_c hR hU2 (by decide), SFR_c hU2 (by decide)⟩
