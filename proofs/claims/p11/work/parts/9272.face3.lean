theorem nar1 : vp_nar .boolean (1 : Int32) = 1 := rfl
theorem nar0 : vp_nar .boolean (0 : Int32) = 0 := rfl
/-- a window is set anew -/
theorem win_bench {n J : Nat} {FX : Nat → Nat → Int32} {T : Int} {ov tf rv : Nat → Int32} {FV : FVt} {FJ : FJt} {go : Option S4} {gq : List S3} {GA : List A6} {mi : Nat → Int32} {ma a : Nat → Nat → Int32} {v : Int32} (h : BRq n FX T ov tf FV FJ go gq GA mi ma) (hJ : J < n) (ka : ∀ k, k ≠ 35 → k ≠ 41 → a k = ma k) (kne : ∀ k j, j ≠ J → a k j = ma k j) (k35 : a 35 J = v) (hr : ∀ k, k ≠ 10 → rv k = FV J 4 k) (h41 : rv 10 = 0 ↔ a 41 J = 0) : BRq n (va_up FX J (upd (FX J) 3 v)) T ov tf (va_up FV J (fpk (FV J 0) (FV J 1) (FV J 2) (FV J 3) rv)) (va_up FJ J (fpj (FJ J 0) (FJ J 1) (FJ J 2))) go gq GA mi a := by
  obtain ⟨b1, b4, b5, b6⟩ := h
  refine ⟨⟨b1.1, b1.2.1, ZR_keep b1.2.2 (fun k j q1 q3 q4 q5 => kne k j (by omega)) (fun i _ => by rw [ka 36 (by decide) (by decide)]) (fun i _ => by rw [ka 71 (by decide) (by decide)])⟩, fun j hj => ?_, RR_keep b5 (fun _ _ => rfl) (fun k hk => ka k (fun e => by rw [e] at hk; revert hk; decide) (fun e => by rw [e] at hk; revert hk; decide)) (fun i => by rw [ka 46 (by decide) (by decide)]; exact Int.le_refl _), AQ_keep b6 rfl rfl (fun k hk => ka k (fun e => by rw [e] at hk; revert hk; decide) (fun e => by rw [e] at hk; revert hk; decide)) (fun f => by rw [ka 46 (by decide) (by decide)]; exact Int.le_refl _)⟩
  obtain ⟨q1, q2, q3⟩ := b4 j hj
  have hF : FQ j T (FX j 1) (FX j 2) (FV j 0) (FV j 1) (FV j 2) (FV j 3) (FJ j 0) (FJ j 1) mi a := FQ_same q2 rfl (fun k k1 k2 => by rw [ka k (by omega) (by omega)]) (fun _ _ => by rw [ka 71 (by decide) (by decide)]) (fun _ _ => by rw [ka 72 (by decide) (by decide)])
  by_cases e : j = J
  · subst e
    rw [va_up_self, va_up_self, va_up_self]
    refine ⟨by rw [upd_b (by decide)]; exact q1, ?_, ?_⟩
    · rw [upd_b (show 1 ≠ 3 by decide), upd_b (show 2 ≠ 3 by decide)]
      exact hF
    · obtain ⟨r1, r2, r3, r4, r5, r6, r7, r8, r9, r10⟩ := q3
      show RVq j (upd (FX j) 3 v 3) rv (FJ j 2) a
      unfold RVq
      rw [upd_a, k35, hr 1 (by decide), hr 2 (by decide), hr 5 (by decide), hr 6 (by decide), hr 7 (by decide), hr 8 (by decide), hr 9 (by decide), ka 33 (by decide) (by decide), ka 34 (by decide) (by decide), ka 36 (by decide) (by decide), ka 37 (by decide) (by decide), ka 38 (by decide) (by decide), ka 39 (by decide) (by decide), ka 40 (by decide) (by decide), ka 46 (by decide) (by decide)]
      exact ⟨r1, r2, rfl, r4, r5, r6, r7, r8, h41, r10⟩
  · rw [va_up_ne _ _ e, va_up_ne _ _ e, va_up_ne _ _ e]
    exact ⟨q1, hF, RVq_keep q3 (fun k hk => kne k j e) (fun i _ => by rw [ka 36 (by decide) (by decide)]) (by rw [ka 46 (by decide) (by decide)]; exact Int.le_refl _)⟩
theorem stp_ne {A : Nat → Nat → Int32} {k n i j : Nat} {v : Int32} (h : i ≠ n) : va_up A k (upd (A k) n v) j i = A j i := by
  by_cases e : j = k
  · subst e
    rw [va_up_self, upd_b h]
  · rw [va_up_ne _ _ e]
theorem stp_eq {A : Nat → Nat → Int32} {k n : Nat} {v : Int32} : va_up A k (upd (A k) n v) k n = v := by
  rw [va_up_self, upd_a]
theorem bd_ex {α β : Type} {x : α} {k : α → β} {y : β} (h : bd x k = y) : ∃ a, a = x ∧ k a = y := ⟨x, rfl, by rw [bd_eq] at h; exact h⟩
/-- window -/
theorem RLq_window {n : Nat} {FX FX2 : Nat → Nat → Int32} {nw a1 a2 r : Int32} {ov tf : Nat → Int32} {FV : FVt} {FJ : FJt} {go : Option S4} {gq : List S3} {gw : List S4} {ga : List A6} {mi : Nat → Int32} {ma : Nat → Nat → Int32} (h : RLq n FX nw ov tf FV FJ go gq gw ga mi ma) (hs : WND n FX a1 a2 r FX2) : RLq n FX2 nw ov tf (xc_window n FX FV FJ a1 a2).1 (xc_window n FX FV FJ a1 a2).2 go gq gw ga (x_window a1 a2 mi ma).1 (x_window a1 a2 mi ma).2.1 := by
  have h32 := RL_tick h
  unfold xc_window x_window
  rw [isFlow_eq h32.1]
  simp only [bd_eq, bc_eq]
  rcases hs with ⟨_, rfl, c⟩ | ⟨J, hJ, rfl, c2, _, rfl⟩
  · by_cases d : isf a1 n = 0
    · rw [if_pos d, if_pos d]
      exact h
    · have c2 : wi a2 0 200 = 0 := c.resolve_left d
      rw [if_neg d, if_neg d, if_pos c2, if_pos c2]
      exact h
  · have c1 : ¬ isf (nI J) n = 0 := by rw [isf_1 hJ h32.2]; decide
    rw [if_neg c1, if_neg c1, if_neg c2, if_neg c2, nI_clamp (show J < 2 ^ 31 by omega)]
    obtain ⟨GA, GW, h1, h2, h3, h4, h5⟩ := h
    obtain ⟨q1, q2, q3⟩ := h4.2.1 J hJ
    have e35 : FX J 3 = ma 35 J := q3.2.2.1
    have e41 : FV J 4 10 = 0 ↔ ma 41 J = 0 := q3.2.2.2.2.2.2.2.2.1
    have o41 : va_up ma 35 (upd (ma 35) J a2) 41 = ma 41 := va_up_ne _ _ (by decide)
    have key : ∀ (v : Int32), ((xc_changeWin (FX J 0) (FX J 3) (FV J 4) a2) 10 = 0 ↔ v = 0) → RLq n (va_up FX J (upd (FX J) 3 a2)) nw ov tf (va_up FV J (fpk (FV J 0) (FV J 1) (FV J 2) (FV J 3) (xc_changeWin (FX J 0) (FX J 3) (FV J 4) a2))) (va_up FJ J (fpj (FJ J 0) (FJ J 1) (FJ J 2))) go gq gw ga mi (va_up (va_up ma 35 (upd (ma 35) J a2)) 41 (upd (ma 41) J v)) := fun v hv => by
      have ka : ∀ k, k ≠ 35 → k ≠ 41 → va_up (va_up ma 35 (upd (ma 35) J a2)) 41 (upd (ma 41) J v) k = ma k := fun k z1 z2 => by rw [va_up_ne _ _ z2, va_up_ne _ _ z1]
      have kb : va_up (va_up ma 35 (upd (ma 35) J a2)) 41 (upd (ma 41) J v) = va_up (va_up ma 35 (upd (ma 35) J a2)) 41 (upd (va_up ma 35 (upd (ma 35) J a2) 41) J v) := by rw [o41]
      refine ⟨GA, GW, h1, h2, h3, win_bench h4 hJ ka (fun k j hj => by rw [kb, stp_ne hj, stp_ne hj]) (by rw [va_up_ne _ _ (by decide), stp_eq]) (fun k hk => ?_) ?_, WQ_keep h5 rfl rfl (fun k hk => ka k (fun e => by rw [e] at hk; revert hk; decide) (fun e => by rw [e] at hk; revert hk; decide)) (fun f => by rw [ka 46 (by decide) (by decide)]; exact Int.le_refl _)⟩
      · unfold xc_changeWin
        simp only [bd_eq]
        by_cases c : a2 = FX J 3
        · rw [if_pos c]
        · rw [if_neg c, upd_b hk]
      · rw [va_up_self, upd_a]
        exact hv
    rw [o41]
    by_cases d : ma 41 J = 0
    · rw [if_pos d]
      by_cases d2 : ma 35 J = a2
      · rw [if_pos d2, nar0]
        refine key 0 ?_
        unfold xc_changeWin
        rw [if_pos (by rw [e35, d2]), e41]
        exact ⟨fun _ => rfl, fun _ => d⟩
      · rw [if_neg d2, nar1]
        refine key 1 ?_
        unfold xc_changeWin
        simp only [bd_eq]
        rw [if_neg (fun w => d2 (by rw [← e35, ← w])), upd_a]
    · rw [if_neg d, nar1]
      refine key 1 ?_
      unfold xc_changeWin
      simp only [bd_eq]
      by_cases c : a2 = FX J 3
      · rw [if_pos c, e41]
        exact ⟨fun w => absurd w d, fun w => absurd w (by decide)⟩
      · rw [if_neg c, upd_a]
theorem BRq_congr {n : Nat} {FX FX2 : Nat → Nat → Int32} {T : Int} {ov tf : Nat → Int32} {FV FV2 : FVt} {FJ FJ2 : FJt} {go : Option S4} {gq : List S3} {GA : List A6} {mi : Nat → Int32} {ma : Nat → Nat → Int32} (h : BRq n FX T ov tf FV FJ go gq GA mi ma) (p : ∀ j, j < n → FX2 j = FX j ∧ FV2 j = FV j ∧ FJ2 j = FJ j) : BRq n FX2 T ov tf FV2 FJ2 go gq GA mi ma := by
  refine ⟨h.1, fun j hj => ?_, h.2.2⟩
  obtain ⟨a0, a1, a2⟩ := p j hj
  rw [a0, a1, a2]
  exact h.2.1 j hj
