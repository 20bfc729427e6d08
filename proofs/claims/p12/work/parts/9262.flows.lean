theorem xc_lookAt_id {ov tf sv tv bv cv : Nat → Int32} {go : Option S4} {gq : List S3} {n0 k0 g0 t : Int32} {f g : Nat → Int64} (h : ¬ tv 3 = t) : xc_lookAt ov go gq tf n0 k0 g0 sv tv bv cv f g t = (sv, tv, bv, cv, f, g, ov, tf, go, gq) := by
  unfold xc_lookAt
  simp only [bd_eq]
  rw [if_neg h]
theorem BRq_pack2 {n j : Nat} {FX : Nat → Nat → Int32} {T : Int} {ov tf : Nat → Int32} {FV : FVt} {FJ : FJt} {go : Option S4} {gq : List S3} {GA : List A6} {mi : Nat → Int32} {ma : Nat → Nat → Int32} (h : BRq n FX T ov tf FV FJ go gq GA mi ma) (hj : j < n) : BRq n FX T ov tf (va_up FV j (fpk (FV j 0) (FV j 1) (FV j 2) (FV j 3) (FV j 4))) (va_up FJ j (fpj (FJ j 0) (FJ j 1) (FJ j 2))) go gq GA mi ma := BRq_pack h hj
/-- the timers, flow by flow -/
theorem flT_pair {n : Nat} {FX : Nat → Nat → Int32} {T : Int} {GA : List A6} {n1 i2 i3 en i4 : Int32} {x : XT} {kk : Int32 → Int32 → (Nat → Int32) → (Nat → Int32) → FVt → FJt → Option S4 → List S3 → List S4 → List A6 → RT} {gw : List S4} {ga : List A6} : ∀ (d j fu : Nat) (ov tf : Nat → Int32) (FV : FVt) (FJ : FJt) (go : Option S4) (gq : List S3) (mi : Nat → Int32) (ma : Nat → Nat → Int32), j + d = n → BRq n FX T ov tf FV FJ go gq GA mi ma → x_run_t n1 fu 55 mi ma i2 i3 (nI j) = some x → ∃ fu2 ov2 tf2 FV2 FJ2 go2 gq2 m a, x_run_t n1 fu2 93 m a i2 i3 0 = some x ∧ xc_flT n FX en kk (mi 4) i4 d j ov tf FV FJ go gq gw ga = xc_flS n FX en kk (mi 4) i4 n 0 ov2 tf2 FV2 FJ2 go2 gq2 gw ga ∧ BRq n FX T ov2 tf2 FV2 FJ2 go2 gq2 GA m a ∧ HFR mi ma m a
  | d, j, 0, ov, tf, FV, FJ, go, gq, mi, ma, hd, h, hx => by
    rw [x_run_t] at hx
    cases hx
  | 0, j, fu + 1, ov, tf, FV, FJ, go, gq, mi, ma, hd, h, hx => by
    rw [x_run_t, if_neg (by decide), if_pos rfl] at hx
    simp only [bd_eq] at hx
    rw [h.1.2.1, show j = n by omega, if_pos (Int32.le_refl _)] at hx
    rw [xc_flT]
    exact ⟨fu, ov, tf, FV, FJ, go, gq, mi, ma, hx, rfl, h, HFR_refl⟩
  | d + 1, j, fu + 1, ov, tf, FV, FJ, go, gq, mi, ma, hd, h, hx => by
    have hn := h.1.1
    have hj : j < n := by omega
    obtain ⟨q1, q2, q3⟩ := h.2.1 j hj
    have e3 : FV j 1 3 = ma 61 j := SQ_t3 q2.1
    rw [x_run_t, if_neg (by decide), if_pos rfl] at hx
    simp only [bd_eq] at hx
    rw [h.1.2.1, if_neg (fun w => by have := (nIle (by omega) (by omega)).mp w; omega), nI_clamp (show j < 2 ^ 31 by omega), nI_1] at hx
    rw [xc_flT]
    simp only [bd_eq]
    rw [q1]
    by_cases c : ma 61 j = mi 4
    · rw [if_pos c] at hx
      obtain ⟨m', a', r', y1, y2⟩ := bo_some hx
      obtain ⟨sv2, tv2, bv2, cv2, f2, g2, ov2, tf2, go2, gq2, z1, z2, z3, z4⟩ := due_pair (show j < 4 by omega) q2 h.2.2.1 c y1
      rw [z1]
      have hsb := send_bench h hj z2 z4 z3
      have m4 : m' 4 = mi 4 := z4.1 4 (by decide)
      obtain ⟨fu2, ov3, tf3, FV3, FJ3, go3, gq3, m3, a3, v1, v2, v3, v4⟩ := flT_pair (en := en) (i4 := i4) (kk := kk) (gw := gw) (ga := ga) d (j + 1) fu ov2 tf2 _ _ go2 gq2 m' a' (by omega) hsb y2
      rw [m4] at v2
      exact ⟨fu2, ov3, tf3, FV3, FJ3, go3, gq3, m3, a3, v1, v2, v3, HFR_trans (HFR_s z4) v4⟩
    · rw [if_neg c] at hx
      rw [xc_lookAt_id (by rw [e3]; exact c)]
      exact flT_pair d (j + 1) fu ov tf _ _ go gq mi ma (by omega) (BRq_pack2 h hj) hx
theorem QU_frame {F j : Nat} {mi m : Nat → Int32} {ma a : Nat → Nat → Int32} (h : QU j ma) (hR : SFR F mi ma m a) (hj : j ≠ F) (hn : NB j ma) : QU j a := by
  have hk : ∀ k, 42 ≤ k → k ≤ 70 → a k j = ma k j := fun k k1 k2 => hR.2.1 k j (fun w => by revert w; simp only [List.mem_cons, List.not_mem_nil, or_false]; omega) (by omega)
  refine ⟨?_, fun hf => ?_⟩
  · rw [nxR_congr (a := ma) (fun k hk2 => hk k (by revert hk2; simp only [List.mem_cons, List.not_mem_nil, or_false]; omega) (by revert hk2; simp only [List.mem_cons, List.not_mem_nil, or_false]; omega)) (fun i hi => hR.2.1 71 _ (by decide) (by omega)) (fun i hi => hR.2.1 72 _ (by decide) (by omega)) hn]
    exact h.1
  · rw [hk 61 (by decide) (by decide)]
    apply h.2
    have hf2 : a 60 j = 0 ∧ a 45 j = a 44 j ∧ ¬ a 43 j ≤ a 45 j := hf
    rw [hk 60 (by decide) (by decide), hk 45 (by decide) (by decide), hk 44 (by decide) (by decide), hk 43 (by decide) (by decide)] at hf2
    exact hf2
/-- the senders, flow by flow -/
theorem flS_pair {n : Nat} {FX : Nat → Nat → Int32} {T : Int} {GA : List A6} {n1 i2 i3 en i4 : Int32} {x : XT} {kk : Int32 → Int32 → (Nat → Int32) → (Nat → Int32) → FVt → FJt → Option S4 → List S3 → List S4 → List A6 → RT} {gw : List S4} {ga : List A6} : ∀ (d j fu : Nat) (ov tf : Nat → Int32) (FV : FVt) (FJ : FJt) (go : Option S4) (gq : List S3) (mi : Nat → Int32) (ma : Nat → Nat → Int32), j + d = n → BRq n FX T ov tf FV FJ go gq GA mi ma → T = (mi 4).toInt + 1 → (∀ i, i < j → QU i ma) → x_run_t n1 fu 93 mi ma i2 i3 (nI j) = some x → ∃ fu2 ov2 tf2 FV2 FJ2 go2 gq2 m a, x_run_t n1 fu2 31 (upd m 4 (m 4 + 1)) a i2 (i3 + 1) 0 = some x ∧ xc_flS n FX en kk (mi 4) i4 d j ov tf FV FJ go gq gw ga = xc_afS n en kk (mi 4) i4 ov2 tf2 FV2 FJ2 go2 gq2 gw ga ∧ BRq n FX T ov2 tf2 FV2 FJ2 go2 gq2 GA m a ∧ (∀ i, i < n → QU i a) ∧ HFR mi ma m a
  | d, j, 0, ov, tf, FV, FJ, go, gq, mi, ma, hd, h, hT, hq, hx => by
    rw [x_run_t] at hx
    cases hx
  | 0, j, fu + 1, ov, tf, FV, FJ, go, gq, mi, ma, hd, h, hT, hq, hx => by
    rw [x_run_t, if_neg (by decide), if_neg (by decide)] at hx
    simp only [bd_eq] at hx
    rw [h.1.2.1, show j = n by omega, if_pos (Int32.le_refl _)] at hx
    rw [xc_flS]
    exact ⟨fu, ov, tf, FV, FJ, go, gq, mi, ma, hx, rfl, h, fun i hi => hq i (by omega), HFR_refl⟩
  | d + 1, j, fu + 1, ov, tf, FV, FJ, go, gq, mi, ma, hd, h, hT, hq, hx => by
    have hn := h.1.1
    have hj : j < n := by omega
    obtain ⟨q1, q2, q3⟩ := h.2.1 j hj
    rw [x_run_t, if_neg (by decide), if_neg (by decide)] at hx
    simp only [bd_eq] at hx
    rw [h.1.2.1, if_neg (fun w => by have := (nIle (by omega) (by omega)).mp w; omega), nI_1] at hx
    obtain ⟨m', a', r', y1, y2⟩ := bo_some hx
    rw [xc_flS]
    simp only [bd_eq]
    rw [q1]
    have hMB : MB mi ma := by
      rw [x_sends_eq (show j < 4 by omega)] at y1
      have hP := (ax_some (by rw [x_sends_0] at y1; exact y1)).1
      exact hP.1
    obtain ⟨sv2, tv2, g2, ov2, tf2, go2, gq2, z1, z2, z3, z4, z5⟩ := sends_pair (show j < 4 by omega) q2 h.2.2.1 hT y1
    rw [z1]
    have hsb := send_bench h hj z2 z4 z3
    have m4 : m' 4 = mi 4 := z4.1 4 (by decide)
    obtain ⟨fu2, ov3, tf3, FV3, FJ3, go3, gq3, m3, a3, v1, v2, v3, v4, v5⟩ := flS_pair (en := en) (i4 := i4) (kk := kk) (gw := gw) (ga := ga) d (j + 1) fu ov2 tf2 _ _ go2 gq2 m' a' (by omega) hsb (by rw [m4]; exact hT) (fun i hi => by
      by_cases e : i = j
      · rw [e]
        exact z5
      · exact QU_frame (hq i (by omega)) z4 e (NB_of (show i < 4 by omega) hMB (h.2.1 i (by omega)).2.1.2.1)) y2
    rw [m4] at v2
    exact ⟨fu2, ov3, tf3, FV3, FJ3, go3, gq3, m3, a3, v1, v2, v3, v4, HFR_trans (HFR_s z4) v5⟩
