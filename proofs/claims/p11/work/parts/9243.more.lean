theorem SQ_sgrow {n0 k0 g0 : Int32} {sv tv bv cv u mi : Nat → Int32} {f g : Nat → Int64} (h : SQ sv tv cv k0 g0 u) (c1 : 1 ≤ (u 47).toInt) (c2 : (u 47).toInt ≤ 262144) (w2 : (u 63).toInt ≤ 262144) (t1 : 0 ≤ (mi 4).toInt) (t2 : (mi 4).toInt ≤ 100000000) (p : u 67 = -1 ∨ (0 ≤ (u 67).toInt ∧ (u 67).toInt ≤ (mi 4).toInt)) (s1 : 0 ≤ (u 50).toInt) (s2 : (u 50).toInt ≤ 800000000) (k1 : 0 ≤ (u 64).toInt) (k2 : (u 64).toInt ≤ 16384) : ∃ sv2 cv2 u2, xc_sgrow n0 k0 g0 sv tv bv cv f g (mi 4) = (sv2, tv, bv, cv2, f, g) ∧ (if u 48 ≤ u 47 then v_grows mi u else ((v_opens (u 47 + 1024) mi u).1, 0)) = (u2, 0) ∧ SQ sv2 tv cv2 k0 g0 u2 ∧ UF [47, 68, 64, 65, 66, 67] u u2 ∧ (u2 67 = -1 ∨ (0 ≤ (u2 67).toInt ∧ (u2 67).toInt ≤ (mi 4).toInt)) ∧ (0 ≤ (u2 64).toInt ∧ (u2 64).toInt ≤ 16384) := by
  have e6 := SQ_s6 h
  have e8 := SQ_s8 h
  have ek := SQ_k h
  unfold xc_sgrow
  simp only [bd_eq]
  have fin : ∀ (n : Int32) (cv' : Nat → Int32) (u' : Nat → Int32), SQ sv tv cv' k0 g0 u' → UF [64, 65, 66, 67] u u' → (u' 67 = -1 ∨ (0 ≤ (u' 67).toInt ∧ (u' 67).toInt ≤ (mi 4).toInt)) → (0 ≤ (u' 64).toInt ∧ (u' 64).toInt ≤ 16384) → ∃ sv2 u2, xc_setCwnd n0 k0 g0 sv tv bv cv' f g n = (sv2, tv, bv, cv', f, g) ∧ (v_opens n mi u').1 = u2 ∧ SQ sv2 tv cv' k0 g0 u2 ∧ UF [47, 68, 64, 65, 66, 67] u u2 ∧ (u2 67 = -1 ∨ (0 ≤ (u2 67).toInt ∧ (u2 67).toInt ≤ (mi 4).toInt)) ∧ (0 ≤ (u2 64).toInt ∧ (u2 64).toInt ≤ 16384) := by
    intro n cv' u' hq hU h67 h64
    obtain ⟨sv2, y1, y2, y3⟩ := SQ_open (n0 := n0) (n1 := n) (n2 := n) (bv := bv) (f := f) (g := g) (mi := mi) hq rfl
    have hV := v_opens_UF (to := n) (mi := mi) (u := u')
    refine ⟨sv2, _, y1, rfl, y2, UF_trans (UF_mono hU (by decide)) (UF_mono hV (by decide)), ?_, ?_⟩
    · rw [hV 67 (by decide)]
      exact h67
    · rw [hV 64 (by decide)]
      exact h64
  by_cases a1 : u 48 ≤ u 47
  · rw [if_pos a1, if_pos (show sv 8 ≤ sv 6 by rw [e6, e8]; exact a1)]
    by_cases a2 : k0 = 2
    · rw [if_pos a2]
      obtain ⟨cv2, r, u2, x1, x2, x3, x4, x5, x6⟩ := SQ_cgrow h (ek.symm.trans a2) c1 c2 w2 t1 t2 p s1 s2 k1 k2
      obtain ⟨sv3, u3, y1, y2, y3⟩ := fin r cv2 u2 x3 x4 (Or.inr x5) x6
      rw [x1]
      simp only []
      rw [y1, x2, y2]
      exact ⟨_, _, _, rfl, rfl, y3⟩
    · rw [if_neg a2]
      have hv : v_grows mi u = ((v_opens (u 47 + max1 (1048576 / u 47)) mi u).1, 0) := by
        unfold v_grows max1
        simp only [bd_eq]
        rw [if_neg (show ¬ u 42 = 2 from fun w => a2 (ek.trans w))]
        by_cases a3 : 1048576 / u 47 ≤ 1
        · rw [if_pos a3, if_pos a3]
        · rw [if_neg a3, if_neg a3]
      obtain ⟨sv3, u3, y1, y2, y3⟩ := fin (u 47 + max1 (1048576 / u 47)) cv u h UF_refl p ⟨k1, k2⟩
      have em : sv 6 + (if 1 < 1048576 / (if 1 < sv 6 then sv 6 else 1) then 1048576 / (if 1 < sv 6 then sv 6 else 1) else 1) = u 47 + max1 (1048576 / u 47) := by
        rw [e6, c1mx c1]
        unfold max1
        by_cases a3 : 1048576 / u 47 ≤ 1
        · rw [if_pos a3, if_neg (Int32.not_lt.mpr a3)]
        · rw [if_neg a3, if_pos (Int32.not_le.mp a3)]
      rw [em, y1, hv, y2]
      exact ⟨_, _, _, rfl, rfl, y3⟩
  · rw [if_neg a1, if_neg (show ¬ sv 8 ≤ sv 6 by rw [e6, e8]; exact a1), e6]
    obtain ⟨sv3, u3, y1, y2, y3⟩ := fin (u 47 + 1024) cv u h UF_refl p ⟨k1, k2⟩
    rw [y1, y2]
    exact ⟨_, _, _, rfl, rfl, y3⟩
/-- between an ack's telling and the answer to it: a recovery may be at its end -/
def SI2 (T : Int) (t : Int32) (u : Nat → Int32) : Prop :=
  (0 ≤ (u 50).toInt ∧ (u 50).toInt ≤ 800000000) ∧ (u 52 = 0 ↔ u 50 = 0) ∧ (u 69 = -1 ∨ (0 ≤ (u 70).toInt ∧ (u 70).toInt < T)) ∧ (u 67 = -1 ∨ (0 ≤ (u 67).toInt ∧ (u 67).toInt ≤ t.toInt)) ∧ (0 ≤ (u 64).toInt ∧ (u 64).toInt ≤ 16384) ∧ (0 ≤ (u 49).toInt ∧ (u 49).toInt ≤ 60000) ∧
  ((u 44).toInt ≤ (u 45).toInt ∧ (u 45).toInt ≤ (u 46).toInt ∧ (u 55).toInt ≤ (u 46).toInt) ∧
  (u 42 = 3 → (u 45 = u 46 ∨ (u 54 = 0 ∧ u 55 = u 46 ∧ (u 44).toInt < (u 55).toInt) ∨ (u 54 = 0 ∧ u 45 = u 44 ∧ (u 46).toInt = (u 45).toInt + 1)) ∧ (¬ u 54 = 0 → u 45 = u 46 ∧ (u 56).toInt ≤ (u 44).toInt ∧ (u 55).toInt ≤ (u 56).toInt + 200 ∧ 0 ≤ (u 56).toInt))
theorem SI_2 {T : Int} {t : Int32} {u : Nat → Int32} (h : SI T t u) : SI2 T t u := by
  obtain ⟨h1, h2, h3, h4, h5, h6, h7, h8⟩ := h
  exact ⟨h1, h2, h3, h4, h5, h6, h7, fun k => ⟨(h8 k).1, fun r => ⟨((h8 k).2 r).1, ((h8 k).2 r).2.1, ((h8 k).2 r).2.2.2.1, ((h8 k).2 r).2.2.2.2⟩⟩⟩
theorem SI_of2 {T : Int} {t : Int32} {u : Nat → Int32} (h : SI2 T t u) (hr : u 42 = 3 → ¬ u 54 = 0 → (u 44).toInt < (u 55).toInt) : SI T t u := by
  obtain ⟨h1, h2, h3, h4, h5, h6, h7, h8⟩ := h
  exact ⟨h1, h2, h3, h4, h5, h6, h7, fun k => ⟨(h8 k).1, fun r => ⟨((h8 k).2 r).1, ((h8 k).2 r).2.1, hr k r, ((h8 k).2 r).2.2.1, ((h8 k).2 r).2.2.2⟩⟩⟩
def BQ2 (F : Nat) (bv : Nat → Int32) (f g : Nat → Int64) (ma : Nat → Nat → Int32) : Prop :=
  (∀ i, i < 200 → (bt4 f ((ma 44 F).toInt.toNat + i) = true ↔ ¬ ma 71 (200 * F + i) = 0)) ∧ ma 71 (200 * F) = 0 ∧ (∀ i : Nat, i < 200 → ¬ ma 71 (200 * F + i) = 0 → (ma 44 F).toInt + i < (ma 46 F).toInt) ∧ LBq (fun i => ma 71 (200 * F + i)) (ma 44 F).toInt.toNat 200 (bv 2) ∧ (¬ ma 54 F = 0 → (ma 44 F).toInt < (ma 55 F).toInt → bv 3 = ma 56 F ∧ RSq F g ma)
def FQ2 (F : Nat) (T : Int) (k0 g0 : Int32) (sv tv bv cv : Nat → Int32) (f g : Nat → Int64) (mi : Nat → Int32) (ma : Nat → Nat → Int32) : Prop := SQ sv tv cv k0 g0 (col ma F) ∧ SI2 T (mi 4) (col ma F) ∧ (k0 = 3 → BQ2 F bv f g ma)
theorem FQ_of2 {F : Nat} {T : Int} {k0 g0 : Int32} {sv tv bv cv : Nat → Int32} {f g : Nat → Int64} {mi : Nat → Int32} {ma : Nat → Nat → Int32} (h : FQ2 F T k0 g0 sv tv bv cv f g mi ma) (hr : ma 42 F = 3 → ¬ ma 54 F = 0 → (ma 44 F).toInt < (ma 55 F).toInt) : FQ F T k0 g0 sv tv bv cv f g mi ma := by
  obtain ⟨h1, h2, h3⟩ := h
  refine ⟨h1, SI_of2 h2 hr, fun hk => ?_⟩
  obtain ⟨p1, p2, p3, p4, p5⟩ := h3 hk
  exact ⟨p1, p2, p3, p4, fun r => p5 r (hr ((show k0 = ma 42 F from SQ_k h1).symm.trans hk) r)⟩
theorem FQ_2 {F : Nat} {T : Int} {k0 g0 : Int32} {sv tv bv cv : Nat → Int32} {f g : Nat → Int64} {mi : Nat → Int32} {ma : Nat → Nat → Int32} (h : FQ F T k0 g0 sv tv bv cv f g mi ma) : FQ2 F T k0 g0 sv tv bv cv f g mi ma := by
  obtain ⟨h1, h2, h3⟩ := h
  refine ⟨h1, SI_2 h2, fun hk => ?_⟩
  obtain ⟨p1, p2, p3, p4, p5⟩ := h3 hk
  exact ⟨p1, p2, p3, p4, fun r _ => p5 r⟩
