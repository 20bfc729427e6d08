def v_end (mi u : Nat → Int32) : Nat → Int32 := upd (upd (v_opens (u 48) mi u).1 54 0) 53 0
theorem more_eq {F : Nat} (hF : F < 4) {gg n1 : Int32} {mi : Nat → Int32} {ma : Nat → Nat → Int32} : x_moreTold (nI F) gg n1 mi ma = if ma 54 F = 0 then (mi, setc ma F (if ma 48 F ≤ ma 47 F then v_grows mi (upd (col ma F) 53 0) else ((v_opens (ma 47 F + 1024) mi (upd (col ma F) 53 0)).1, 0)).1, 0) else if ma 42 F = 0 then (mi, setc ma F (v_end mi (col ma F)), 0) else if gg < ma 55 F then (if ma 42 F = 3 then (mi, ma, 0) else bc (x_sendsAgain (nI F) (ma 44 F) mi ma) (fun m a _ => (m, setc a F (v_opens (if 1024 ≤ a 47 F - 1024 * n1 + 1024 then a 47 F - 1024 * n1 + 1024 else 1024) m (col a F)).1, 0))) else (mi, setc ma F (v_end mi (col ma F)), 0) := by
  have hF2 : (nI F).toNatClampNeg = F := nI_clamp (by omega)
  have hbc : ∀ t : XT, bc t (fun m a _ => if 1024 ≤ a 47 F - 1024 * n1 + 1024 then bc (x_opens (nI F) (a 47 F - 1024 * n1 + 1024) m a) (fun m a _ => (m, a, (0 : Int32))) else bc (x_opens (nI F) 1024 m a) (fun m a _ => (m, a, (0 : Int32)))) = bc t (fun m a _ => (m, setc a F (v_opens (if 1024 ≤ a 47 F - 1024 * n1 + 1024 then a 47 F - 1024 * n1 + 1024 else 1024) m (col a F)).1, 0)) := by
    rintro ⟨m, a, r⟩
    rw [bc_eq, bc_eq, x_opens_c hF, x_opens_c hF, bc_eq, bc_eq]
    by_cases c : 1024 ≤ a 47 F - 1024 * n1 + 1024
    · rw [if_pos c, if_pos c]
    · rw [if_neg c, if_neg c]
  have hend : bc (x_opens (nI F) (ma 48 F) mi ma) (fun m4 a5 _ => (m4, va_up (va_up a5 54 (upd (a5 54) F 0)) 53 (upd (va_up a5 54 (upd (a5 54) F 0) 53) F 0), (0 : Int32))) = (mi, setc ma F (v_end mi (col ma F)), 0) := by
    rw [x_opens_c hF, bc_eq, up_setc, up_setc]
    rfl
  have hgr : (if ma 48 F ≤ ma 47 F then bc (x_grows (nI F) mi (va_up ma 53 (upd (ma 53) F 0))) (fun m a _ => (m, a, (0 : Int32))) else bc (x_opens (nI F) (ma 47 F + 1024) mi (va_up ma 53 (upd (ma 53) F 0))) (fun m a _ => (m, a, (0 : Int32)))) = (mi, setc ma F (if ma 48 F ≤ ma 47 F then v_grows mi (upd (col ma F) 53 0) else ((v_opens (ma 47 F + 1024) mi (upd (col ma F) 53 0)).1, 0)).1, 0) := by
    rw [va_setc]
    by_cases c : ma 48 F ≤ ma 47 F
    · rw [if_pos c, if_pos c, x_grows_c hF, bc_lf, col_setc, setc_setc]
    · rw [if_neg c, if_neg c, x_opens_c hF, bc_eq, col_setc, setc_setc]
  unfold x_moreTold
  simp only [bd_eq, hF2, show vp_nar .boolean (0 : Int32) = 0 from rfl]
  rw [hbc, hend, va_up_ne _ _ (show (47 : Nat) ≠ 53 by decide), va_up_ne _ _ (show (48 : Nat) ≠ 53 by decide), hgr]
theorem SI_end {T : Int} {t : Int32} {mi u : Nat → Int32} (h : SI2 T t u) (hr : ¬ u 54 = 0) : SI T t (v_end mi u) := by
  obtain ⟨h1, h2, h3, h4, h5, h6, h7, h8⟩ := h
  have hU : UF [47, 68, 54, 53] u (v_end mi u) := UF_upd (UF_upd (UF_mono v_opens_UF (by decide)) (by decide)) (by decide)
  have e54 : v_end mi u 54 = 0 := by
    unfold v_end
    rw [upd_b (by decide), upd_a]
  unfold SI
  rw [e54, hU 50 (by decide), hU 52 (by decide), hU 69 (by decide), hU 70 (by decide), hU 67 (by decide), hU 64 (by decide), hU 49 (by decide), hU 44 (by decide), hU 45 (by decide), hU 46 (by decide), hU 55 (by decide), hU 42 (by decide), hU 56 (by decide)]
  exact ⟨h1, h2, h3, h4, h5, h6, h7, fun k => ⟨Or.inl ((h8 k).2 hr).1, fun w => absurd rfl w⟩⟩
theorem more_pair {F : Nat} (hF : F < 4) {T : Int} {k0 g0 n1 i4 i5 i6 : Int32} {pk : A6} {sv tv bv cv : Nat → Int32} {f g : Nat → Int64} {mi : Nat → Int32} {ma : Nat → Nat → Int32} {ov tf : Nat → Int32} {go : Option S4} {gq : List S3} (h : FQ2 F T k0 g0 sv tv bv cv f g mi ma) (hR : RR ov tf go gq mi ma) (hn : NB F ma) (b1 : 0 ≤ (mi 30).toInt) (b2 : (mi 30).toInt ≤ 64) (b3 : 0 ≤ (mi 1).toInt) (b4 : (mi 1).toInt ≤ 100) (c1 : 1 ≤ (ma 47 F).toInt) (c2 : (ma 47 F).toInt ≤ 262144) (w2 : (ma 63 F).toInt ≤ 262144) (t1 : 0 ≤ (mi 4).toInt) (t2 : (mi 4).toInt ≤ 100000000) (h6 : ¬ i6 ≤ 0) : ∃ m a sv2 tv2 cv2 g2 ov2 tf2 go2 gq2, x_moreTold (nI F) (ma 44 F) i6 mi ma = (m, a, 0) ∧ xc_hear_117 ov go gq tf (nI F) k0 g0 pk n1 sv tv bv f g cv (mi 4) i4 i5 i6 = (sv2, tv2, bv, cv2, f, g2, ov2, tf2, go2, gq2) ∧ FQ F T k0 g0 sv2 tv2 bv cv2 f g2 m a ∧ RR ov2 tf2 go2 gq2 m a ∧ SFR F mi ma m a := by
  have hS := h.1
  have hI := h.2.1
  have e11 : sv 11 = ma 54 F := SQ_s11 hS
  have e3 : sv 3 = ma 44 F := SQ_s3 hS
  have e12 : sv 12 = ma 55 F := SQ_s12 hS
  have e8 : sv 8 = ma 48 F := SQ_s8 hS
  have ek : k0 = ma 42 F := SQ_k hS
  have q : (ma 44 F).toInt ≤ (ma 45 F).toInt ∧ (ma 45 F).toInt ≤ (ma 46 F).toInt ∧ (ma 55 F).toInt ≤ (ma 46 F).toInt := hI.2.2.2.2.2.2.1
  rw [more_eq hF]
  unfold xc_hear_117
  rw [if_neg h6]
  simp only [bd_eq]
  by_cases a1 : ma 54 F = 0
  · rw [if_pos a1, if_pos (show sv 11 = 0 from e11.trans a1)]
    have hFQ := FQ_of2 h (fun _ w => absurd a1 w)
    have hI := hFQ.2.1
    have s1 := SQ_us10 hS (rfl : (0 : Int32) = 0)
    have hU1 : UF [53] (col ma F) (upd (col ma F) 53 0) := UF_upd UF_refl (by decide)
    obtain ⟨sv2, cv2, u2, x1, x2, x3, x4, x5, x6⟩ := SQ_sgrow (n0 := nI F) (bv := bv) (f := f) (g := g) (mi := mi) s1 (by rw [hU1 47 (by decide)]; exact c1) (by rw [hU1 47 (by decide)]; exact c2) (by rw [hU1 63 (by decide)]; exact w2) t1 t2 (by rw [hU1 67 (by decide)]; exact hI.2.2.2.1) (by rw [hU1 50 (by decide)]; exact hI.1.1) (by rw [hU1 50 (by decide)]; exact hI.1.2) (by rw [hU1 64 (by decide)]; exact hI.2.2.2.2.1.1) (by rw [hU1 64 (by decide)]; exact hI.2.2.2.2.1.2)
    unfold xc_hear_140
    rw [if_neg h6]
    simp only [bd_eq]
    rw [x1]
    rw [hU1 48 (by decide), hU1 47 (by decide)] at x2
    have x2' : (if ma 48 F ≤ ma 47 F then v_grows mi (upd (col ma F) 53 0) else ((v_opens (ma 47 F + 1024) mi (upd (col ma F) 53 0)).1, 0)) = (u2, 0) := x2
    rw [x2']
    have hU2 : UF [53, 47, 68, 64, 65, 66, 67] (col ma F) u2 := UF_trans (UF_mono hU1 (by decide)) (UF_mono x4 (by decide))
    refine ⟨_, _, _, _, _, _, _, _, _, _, rfl, rfl, ⟨by rw [col_setc]; exact x3, ?_, fun hk => BQ_c (hFQ.2.2 hk) hU2 (by decide)⟩, RR_c hR hU2 (by decide), SFR_c hU2 (by decide)⟩
    rw [col_setc]
    obtain ⟨i1, i2, i3, i4', i5', i6', i7, i8⟩ := hI
    show SI T (mi 4) u2
    unfold SI
    rw [hU2 50 (by decide), hU2 52 (by decide), hU2 69 (by decide), hU2 70 (by decide), hU2 49 (by decide), hU2 44 (by decide), hU2 45 (by decide), hU2 46 (by decide), hU2 55 (by decide), hU2 42 (by decide), hU2 54 (by decide), hU2 56 (by decide)]
    exact ⟨i1, i2, i3, x5, x6, i6', i7, i8⟩
  · rw [if_neg a1, if_neg (show ¬ sv 11 = 0 from fun w => a1 (e11.symm.trans w))]
    have hU3 : UF [47, 68, 54, 53] (col ma F) (v_end mi (col ma F)) := UF_upd (UF_upd (UF_mono v_opens_UF (by decide)) (by decide)) (by decide)
    have fin : ∃ m a sv2 tv2 cv2 g2 ov2 tf2 go2 gq2, (mi, setc ma F (v_end mi (col ma F)), (0 : Int32)) = (m, a, 0) ∧ (upd (upd (xc_setCwnd (nI F) k0 g0 sv tv bv cv f g (ma 48 F)).1 11 0) 10 0, tv, bv, cv, f, g, ov, tf, go, gq) = (sv2, tv2, bv, cv2, f, g2, ov2, tf2, go2, gq2) ∧ FQ F T k0 g0 sv2 tv2 bv cv2 f g2 m a ∧ RR ov2 tf2 go2 gq2 m a ∧ SFR F mi ma m a := by
      obtain ⟨sv2, y1, y2, y3⟩ := SQ_open (n0 := nI F) (n1 := ma 48 F) (n2 := ma 48 F) (bv := bv) (f := f) (g := g) (mi := mi) hS rfl
      rw [y1]
      refine ⟨_, _, _, _, _, _, _, _, _, _, rfl, rfl, ⟨?_, ?_, fun hk => ?_⟩, RR_c hR hU3 (by decide), SFR_c hU3 (by decide)⟩
      · rw [col_setc]
        exact SQ_us10 (SQ_us11 y2 rfl) rfl
      · rw [col_setc]
        exact SI_end hI a1
      · obtain ⟨p1, p2, p3, p4, p5⟩ := h.2.2 hk
        have k := fun k (hk : k ∉ ([47, 68, 54, 53] : List Nat)) => setc_keep (a := ma) (F := F) (k := k) hU3 hk
        refine ⟨by rw [k 44 (by decide), k 71 (by decide)]; exact p1, by rw [k 71 (by decide)]; exact p2, by rw [k 44 (by decide), k 46 (by decide), k 71 (by decide)]; exact p3, by rw [k 44 (by decide), k 71 (by decide)]; exact p4, fun w => absurd ?_ w⟩
        rw [setc_at]
        unfold v_end
        rw [upd_b (by decide), upd_a]
    have hset : xc_setCwnd (nI F) k0 g0 sv tv bv cv f g (ma 48 F) = ((xc_setCwnd (nI F) k0 g0 sv tv bv cv f g (ma 48 F)).1, tv, bv, cv, f, g) := by rw [xc_setCwnd_eq]
    unfold xc_hearRec
    simp only [bd_eq]
    rw [e3, e12, e8, hset]
    by_cases a2 : k0 = 0
    · rw [if_pos (show ma 42 F = 0 from ek.symm.trans a2), if_pos a2]
      exact fin
    · rw [if_neg (show ¬ ma 42 F = 0 from fun w => a2 (ek.trans w)), if_neg a2]
      by_cases a3 : ma 44 F < ma 55 F
      · have a3i := Int32.lt_iff_toInt_lt.mp a3
        rw [if_pos a3, if_pos a3]
        have hFQ := FQ_of2 h (fun _ _ => a3i)
        by_cases a4 : k0 = 3
        · rw [if_pos (show ma 42 F = 3 from ek.symm.trans a4), if_pos a4]
          exact ⟨_, _, _, _, _, _, _, _, _, _, rfl, rfl, hFQ, hR, SFR_refl⟩
        · rw [if_neg (show ¬ ma 42 F = 3 from fun w => a4 (ek.trans w)), if_neg a4]
          have hU : ma 44 F = nI (ma 44 F).toInt.toNat := nIof hn.1
          obtain ⟨svt, tvt, gt, ov2, tf2, go2, gq2, m1, a1', x1, x2, x3, x4, x5, x6, x7, _⟩ := step_lost hF (s := (ma 44 F).toInt.toNat) hFQ hR b1 b2 b3 b4 hn (by have := hn.1; omega) (by have := hn.1; omega) (fun w => absurd w a4)
          rw [← hU] at x1 x3
          rw [x3, bc_eq, x1]
          simp only []
          have e47 : svt 6 = a1' 47 F := SQ_s6 x4.1
          obtain ⟨sv3, y1, y2, y3⟩ := FQ_open (n0 := nI F) (n := if 1024 ≤ a1' 47 F - 1024 * i6 + 1024 then a1' 47 F - 1024 * i6 + 1024 else 1024) x4
          have em : (if 1024 < svt 6 - 1024 * i6 + 1024 then svt 6 - 1024 * i6 + 1024 else 1024) = (if 1024 ≤ a1' 47 F - 1024 * i6 + 1024 then a1' 47 F - 1024 * i6 + 1024 else 1024) := by
            rw [e47]
            generalize a1' 47 F - 1024 * i6 + 1024 = z
            by_cases w : 1024 ≤ z
            · rw [if_pos w]
              by_cases w3 : 1024 < z
              · rw [if_pos w3]
              · rw [if_neg w3]
                exact Int32.le_antisymm w (Int32.not_lt.mp w3)
            · rw [if_neg w, if_neg (fun w3 => w (Int32.le_of_lt w3))]
          rw [em, y1]
          exact ⟨_, _, _, _, _, _, _, _, _, _, rfl, rfl, y2, RR_c x5 v_opens_UF (by decide), SFR_trans x6 (SFR_c v_opens_UF (by decide))⟩
      · rw [if_neg a3, if_neg a3]
        exact fin
