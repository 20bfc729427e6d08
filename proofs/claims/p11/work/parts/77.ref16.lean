theorem kpt_put {k w : Nat → Int32} {i f j : Nat} {v : Int32} (h : kpt k w) (hi : i = 200 * f + j) (hj : j < 200) (h1 : ¬ v = 0 → (w f).toInt + j ≤ 1000000) : kpt (upd k i v) w := by
  intro g l hg hl hn
  have e : upd k i v (200 * g + l) = if 200 * g + l = i then v else k (200 * g + l) := rfl
  rw [e] at hn
  by_cases q : 200 * g + l = i
  · rw [if_pos q] at hn
    obtain rfl : g = f := by omega
    obtain rfl : l = j := by omega
    exact h1 hn
  · rw [if_neg q] at hn; exact h g l hg hl hn
theorem kpt_wan {k w : Nat → Int32} {i : Nat} {v : Int32} (h : kpt k w) (h1 : ∀ j : Nat, j < 200 → ¬ k (200 * i + j) = 0 → v.toInt + j ≤ 1000000) : kpt k (upd w i v) := by
  intro g l hg hl hn
  show (if g = i then v else w g).toInt + (l : Int) ≤ 1000000
  by_cases q : g = i
  · rw [if_pos q]; rw [q] at hn; exact h1 l hl hn
  · rw [if_neg q]; exact h g l hg hl hn
theorem MBa_kp {i f j : Nat} {mi : Nat → Int32} {ma : Nat → Nat → Int32} {v : Int32} (h : MB mi ma) (hi : i = 200 * f + j) (hj : j < 200) (h1 : ¬ v = 0 → (ma 34 f).toInt + j ≤ 1000000) : MB mi (va_up ma 36 (upd (ma 36) i v)) := ⟨h.1, h.2.1, h.2.2.1, h.2.2.2.1, h.2.2.2.2.1, h.2.2.2.2.2.1, h.2.2.2.2.2.2.1, h.2.2.2.2.2.2.2.1, h.2.2.2.2.2.2.2.2.1, h.2.2.2.2.2.2.2.2.2.1, h.2.2.2.2.2.2.2.2.2.2.1, h.2.2.2.2.2.2.2.2.2.2.2.1, h.2.2.2.2.2.2.2.2.2.2.2.2.1, h.2.2.2.2.2.2.2.2.2.2.2.2.2.1, h.2.2.2.2.2.2.2.2.2.2.2.2.2.2.1, h.2.2.2.2.2.2.2.2.2.2.2.2.2.2.2.1, h.2.2.2.2.2.2.2.2.2.2.2.2.2.2.2.2.1, h.2.2.2.2.2.2.2.2.2.2.2.2.2.2.2.2.2.1, h.2.2.2.2.2.2.2.2.2.2.2.2.2.2.2.2.2.2.1, h.2.2.2.2.2.2.2.2.2.2.2.2.2.2.2.2.2.2.2.1, h.2.2.2.2.2.2.2.2.2.2.2.2.2.2.2.2.2.2.2.2.1, h.2.2.2.2.2.2.2.2.2.2.2.2.2.2.2.2.2.2.2.2.2.1, h.2.2.2.2.2.2.2.2.2.2.2.2.2.2.2.2.2.2.2.2.2.2.1, h.2.2.2.2.2.2.2.2.2.2.2.2.2.2.2.2.2.2.2.2.2.2.2.1, h.2.2.2.2.2.2.2.2.2.2.2.2.2.2.2.2.2.2.2.2.2.2.2.2.1, h.2.2.2.2.2.2.2.2.2.2.2.2.2.2.2.2.2.2.2.2.2.2.2.2.2.1, h.2.2.2.2.2.2.2.2.2.2.2.2.2.2.2.2.2.2.2.2.2.2.2.2.2.2.1, h.2.2.2.2.2.2.2.2.2.2.2.2.2.2.2.2.2.2.2.2.2.2.2.2.2.2.2.1, h.2.2.2.2.2.2.2.2.2.2.2.2.2.2.2.2.2.2.2.2.2.2.2.2.2.2.2.2.1, h.2.2.2.2.2.2.2.2.2.2.2.2.2.2.2.2.2.2.2.2.2.2.2.2.2.2.2.2.2.1, h.2.2.2.2.2.2.2.2.2.2.2.2.2.2.2.2.2.2.2.2.2.2.2.2.2.2.2.2.2.2.1, h.2.2.2.2.2.2.2.2.2.2.2.2.2.2.2.2.2.2.2.2.2.2.2.2.2.2.2.2.2.2.2.1, h.2.2.2.2.2.2.2.2.2.2.2.2.2.2.2.2.2.2.2.2.2.2.2.2.2.2.2.2.2.2.2.2.1, kpt_put (MB_kpt h) hi hj h1, h.2.2.2.2.2.2.2.2.2.2.2.2.2.2.2.2.2.2.2.2.2.2.2.2.2.2.2.2.2.2.2.2.2.2⟩
theorem MBa_wan {i : Nat} {mi : Nat → Int32} {ma : Nat → Nat → Int32} {v : Int32} (h : MB mi ma) (h1 : 0 ≤ v.toInt) (h2 : v.toInt ≤ 1000001) (h3 : ∀ j : Nat, j < 200 → ¬ ma 36 (200 * i + j) = 0 → v.toInt + j ≤ 1000000) : MB mi (va_up ma 34 (upd (ma 34) i v)) := ⟨h.1, h.2.1, h.2.2.1, h.2.2.2.1, h.2.2.2.2.1, h.2.2.2.2.2.1, h.2.2.2.2.2.2.1, h.2.2.2.2.2.2.2.1, h.2.2.2.2.2.2.2.2.1, h.2.2.2.2.2.2.2.2.2.1, h.2.2.2.2.2.2.2.2.2.2.1, h.2.2.2.2.2.2.2.2.2.2.2.1, h.2.2.2.2.2.2.2.2.2.2.2.2.1, h.2.2.2.2.2.2.2.2.2.2.2.2.2.1, h.2.2.2.2.2.2.2.2.2.2.2.2.2.2.1, h.2.2.2.2.2.2.2.2.2.2.2.2.2.2.2.1, h.2.2.2.2.2.2.2.2.2.2.2.2.2.2.2.2.1, h.2.2.2.2.2.2.2.2.2.2.2.2.2.2.2.2.2.1, h.2.2.2.2.2.2.2.2.2.2.2.2.2.2.2.2.2.2.1, h.2.2.2.2.2.2.2.2.2.2.2.2.2.2.2.2.2.2.2.1, h.2.2.2.2.2.2.2.2.2.2.2.2.2.2.2.2.2.2.2.2.1, h.2.2.2.2.2.2.2.2.2.2.2.2.2.2.2.2.2.2.2.2.2.1, rg_upd (MB_wanted h) h1 h2, h.2.2.2.2.2.2.2.2.2.2.2.2.2.2.2.2.2.2.2.2.2.2.2.1, h.2.2.2.2.2.2.2.2.2.2.2.2.2.2.2.2.2.2.2.2.2.2.2.2.1, h.2.2.2.2.2.2.2.2.2.2.2.2.2.2.2.2.2.2.2.2.2.2.2.2.2.1, h.2.2.2.2.2.2.2.2.2.2.2.2.2.2.2.2.2.2.2.2.2.2.2.2.2.2.1, h.2.2.2.2.2.2.2.2.2.2.2.2.2.2.2.2.2.2.2.2.2.2.2.2.2.2.2.1, h.2.2.2.2.2.2.2.2.2.2.2.2.2.2.2.2.2.2.2.2.2.2.2.2.2.2.2.2.1, h.2.2.2.2.2.2.2.2.2.2.2.2.2.2.2.2.2.2.2.2.2.2.2.2.2.2.2.2.2.1, h.2.2.2.2.2.2.2.2.2.2.2.2.2.2.2.2.2.2.2.2.2.2.2.2.2.2.2.2.2.2.1, h.2.2.2.2.2.2.2.2.2.2.2.2.2.2.2.2.2.2.2.2.2.2.2.2.2.2.2.2.2.2.2.1, h.2.2.2.2.2.2.2.2.2.2.2.2.2.2.2.2.2.2.2.2.2.2.2.2.2.2.2.2.2.2.2.2.1, kpt_wan (MB_kpt h) h3, h.2.2.2.2.2.2.2.2.2.2.2.2.2.2.2.2.2.2.2.2.2.2.2.2.2.2.2.2.2.2.2.2.2.2⟩
theorem nar_nz {y : Int32} (h : ¬ vp_nar .boolean y = 0) : ¬ y = 0 := fun e => h (by rw [e]; decide)
theorem kp_shift {k k2 : Nat → Int32} {W : Int} {f : Nat} {a y a2 : Int32} (h0 : 0 ≤ a.toInt) (ha : a.toInt < 199) (hW : ∀ j : Nat, j < 200 → ¬ k (200 * f + j) = 0 → W + j ≤ 1000000) (h : ∀ j : Nat, (j : Int) < a.toInt → ¬ k (200 * f + j) = 0 → W + j + 1 ≤ 1000000) {i1 i2 : Nat} (e1 : i1 = 200 * f + a.toNatClampNeg) (e2 : i2 = 200 * f + a.toNatClampNeg + 1) (ey : y = k i2) (e : k2 = upd k i1 (vp_nar .boolean y)) (ea : a2.toInt = a.toInt + 1) : ∀ j : Nat, (j : Int) < a2.toInt → ¬ k2 (200 * f + j) = 0 → W + j + 1 ≤ 1000000 := by
  intro j hj hn
  have ca := cl_toInt h0
  have q : k2 (200 * f + j) = if 200 * f + j = i1 then vp_nar .boolean y else k (200 * f + j) := by rw [e]; rfl
  rw [q] at hn
  by_cases w : 200 * f + j = i1
  · rw [if_pos w] at hn
    have n1 := nar_nz hn
    rw [ey, e2, show 200 * f + a.toNatClampNeg + 1 = 200 * f + (j + 1) by omega] at n1
    have n2 := hW (j + 1) (by omega) n1
    omega
  · rw [if_neg w] at hn; exact h j (by omega) hn
theorem kp_last {k k2 : Nat → Int32} {W : Int} {f : Nat} {a : Int32} (ha : 199 ≤ a.toInt) (h : ∀ j : Nat, (j : Int) < a.toInt → ¬ k (200 * f + j) = 0 → W + j + 1 ≤ 1000000) {i1 : Nat} (e1 : i1 = 200 * f + 199) (e : k2 = upd k i1 (vp_nar .boolean 0)) : ∀ j : Nat, j < 200 → ¬ k2 (200 * f + j) = 0 → W + 1 + j ≤ 1000000 := by
  intro j hj hn
  have q : k2 (200 * f + j) = if 200 * f + j = i1 then vp_nar .boolean 0 else k (200 * f + j) := by rw [e]; rfl
  rw [q] at hn
  by_cases w : 200 * f + j = i1
  · rw [if_pos w] at hn; exact absurd (by decide) hn
  · rw [if_neg w] at hn
    have := h j (by omega) hn
    omega
theorem owc_up {g : Nat → Int32} {i : Nat} {v : Int32} : owc (upd g i v) ≤ owc g + 1 := by
  have e : ∀ j, upd g i v j = if j = i then v else g j := fun _ => rfl
  unfold owc
  rw [e 0, e 1, e 2, e 3]
  have hv := ow1_le v
  have a0 := ow1_le (g 0)
  have a1 := ow1_le (g 1)
  have a2 := ow1_le (g 2)
  have a3 := ow1_le (g 3)
  by_cases q0 : 0 = i
  · subst q0; simp; omega
  · by_cases q1 : 1 = i
    · subst q1; simp; omega
    · by_cases q2 : 2 = i
      · subst q2; simp; omega
      · by_cases q3 : 3 = i
        · subst q3; simp; omega
        · rw [if_neg q0, if_neg q1, if_neg q2, if_neg q3]; omega
theorem da_sw {ph : Nat} {cl cl2 : Int} {t wf we f e m : Int32} {at_ ow ch ow2 ch2 : Nat → Int32} (h : DA ph cl t wf we f e m at_ ow ch) (hw : owc ow2 + chc ch2 + cl2 ≤ owc ow + chc ch + cl) : DA ph cl2 t wf we f e m at_ ow2 ch2 := by
  obtain ⟨a, b, c⟩ := h
  refine ⟨a, fun k h1 h2 => ?_, c⟩
  have := b k h1 h2
  omega

set_option maxRecDepth 100000 in
noncomputable def x_receives_215 (f : Int32) (g : Int32) (pb : Int32) (mi : Nat → Int32) (ma : Nat → Nat → Int32) (i4 : Int32) (i5 : Int32) : (Option XT) := bd (ma 33 f.toNatClampNeg) (fun v1 => (if v1 = (0 : Int32) then (if pb = (0 : Int32) then bo (x_answer f (1 : Int32) mi ma) (fun m5 a6 _ => some (m5, a6, 0)) else bo (x_answer f (0 : Int32) mi ma) (fun m2 a3 _ => some (m2, a3, 0))) else (if i5 = (0 : Int32) then (if pb = (0 : Int32) then bo (x_answer f (1 : Int32) mi ma) (fun m11 a12 _ => some (m11, a12, 0)) else bo (x_answer f (0 : Int32) mi ma) (fun m8 a9 _ => some (m8, a9, 0))) else (if i4 = (0 : Int32) then (if pb = (0 : Int32) then bo (x_answer f (1 : Int32) mi ma) (fun m17 a18 _ => some (m17, a18, 0)) else bo (x_answer f (0 : Int32) mi ma) (fun m14 a15 _ => some (m14, a15, 0))) else bc (x_keptMany f mi ma) (fun m20 a21 v22 => (if v22 = (0 : Int32) then bd (a21 40 f.toNatClampNeg) (fun v29 => (if v29 = ((-1) : Int32) then bd (m20 4) (fun v36 => bd (v36 + (100 : Int32)) (fun v37 => bd (va_up a21 40 (upd (a21 40) f.toNatClampNeg v37)) (fun a38 => some (m20, a38, 0)))) else (if pb = (0 : Int32) then bo (x_answer f (1 : Int32) m20 a21) (fun m33 a34 _ => some (m33, a34, 0)) else bo (x_answer f (0 : Int32) m20 a21) (fun m30 a31 _ => some (m30, a31, 0))))) else (if pb = (0 : Int32) then bo (x_answer f (1 : Int32) m20 a21) (fun m26 a27 _ => some (m26, a27, 0)) else bo (x_answer f (0 : Int32) m20 a21) (fun m23 a24 _ => some (m23, a24, 0)))))))))
set_option maxRecDepth 100000 in
noncomputable def x_receives_r (f : Int32) (g : Int32) (pb : Int32) : Nat → Nat → (Nat → Int32) → (Nat → Nat → Int32) → Int32 → Int32 → (Option XT)
  | 0, _, mi, ma, _, _ => none
  | fu + 1, tg, mi, ma, i4, i7 => if tg = 129 then bd ((200 : Int32) * f) (fun v39 => bd (ma 36 v39.toNatClampNeg) (fun v40 => (if v40 = (0 : Int32) then x_receives_215 f g pb mi ma i4 (1 : Int32) else x_receives_r f g pb fu 145 mi ma i4 (0 : Int32)))) else (if (199 : Int32) ≤ i7 then bd ((200 : Int32) * f) (fun v41 => bd (v41 + (199 : Int32)) (fun v42 => bd (va_up ma 36 (upd (ma 36) v42.toNatClampNeg (vp_nar .boolean (0 : Int32)))) (fun a43 => bd (a43 34 f.toNatClampNeg) (fun v44 => bd (v44 + (1 : Int32)) (fun v45 => bd (va_up a43 34 (upd (a43 34) f.toNatClampNeg v45)) (fun a46 => x_receives_r f g pb fu 129 mi a46 i4 0)))))) else bd ((200 : Int32) * f) (fun v47 => bd (v47 + i7) (fun v48 => bd ((200 : Int32) * f) (fun v49 => bd (v49 + i7) (fun v50 => bd (v50 + (1 : Int32)) (fun v51 => bd (ma 36 v51.toNatClampNeg) (fun v52 => bd (va_up ma 36 (upd (ma 36) v48.toNatClampNeg (vp_nar .boolean v52))) (fun a53 => bd (i7 + 1) (fun v54 => x_receives_r f g pb fu 145 mi a53 i4 v54)))))))))
set_option maxRecDepth 100000 in
noncomputable def x_receives (f : Int32) (g : Int32) (pb : Int32) (mi : Nat → Int32) (ma : Nat → Nat → Int32) : (Option XT) := ax (MB mi ma ∧ (0 ≤ f.toInt ∧ f.toInt < (mi 32).toInt) ∧ (0 ≤ g.toInt ∧ g.toInt ≤ 1000000)) (bd (mi 29) (fun v55 => bd (v55 + (1 : Int32)) (fun v56 => bd (upd mi 29 v56) (fun m57 => bd (ma 38 f.toNatClampNeg) (fun v58 => bd (v58 + (1 : Int32)) (fun v59 => bd (va_up ma 38 (upd (ma 38) f.toNatClampNeg v59)) (fun a60 => bc (x_keptMany f m57 a60) (fun m61 a62 v63 => (if v63 = (0 : Int32) then bd (a62 34 f.toNatClampNeg) (fun v84 => bd (g - v84) (fun v85 => (if v85 < (0 : Int32) then bd (a62 39 f.toNatClampNeg) (fun v86 => bd (v86 + (1 : Int32)) (fun v87 => bd (va_up a62 39 (upd (a62 39) f.toNatClampNeg v87)) (fun a88 => x_receives_215 f g pb m61 a88 (1 : Int32) (0 : Int32)))) else bd (a62 35 f.toNatClampNeg) (fun v89 => (if v89 ≤ v85 then bd (a62 39 f.toNatClampNeg) (fun v90 => bd (v90 + (1 : Int32)) (fun v91 => bd (va_up a62 39 (upd (a62 39) f.toNatClampNeg v91)) (fun a92 => x_receives_215 f g pb m61 a92 (1 : Int32) (0 : Int32)))) else bd ((200 : Int32) * f) (fun v93 => bd (v93 + v85) (fun v94 => bd (a62 36 v94.toNatClampNeg) (fun v95 => (if v95 = (0 : Int32) then (if v85 ≤ (0 : Int32) then bd ((200 : Int32) * f) (fun v96 => bd (va_up a62 36 (upd (a62 36) v96.toNatClampNeg (vp_nar .boolean (1 : Int32)))) (fun a97 => x_receives_r f g pb 1000003000 129 m61 a97 (1 : Int32) 0)) else bd ((200 : Int32) * f) (fun v98 => bd (v98 + v85) (fun v99 => bd (va_up a62 36 (upd (a62 36) v99.toNatClampNeg (vp_nar .boolean (1 : Int32)))) (fun a100 => x_receives_215 f g pb m61 a100 (1 : Int32) (0 : Int32))))) else bd (a62 39 f.toNatClampNeg) (fun v101 => bd (v101 + (1 : Int32)) (fun v102 => bd (va_up a62 39 (upd (a62 39) f.toNatClampNeg v102)) (fun a103 => x_receives_215 f g pb m61 a103 (1 : Int32) (0 : Int32))))))))))))) else bd (a62 34 f.toNatClampNeg) (fun v64 => bd (g - v64) (fun v65 => (if v65 < (0 : Int32) then bd (a62 39 f.toNatClampNeg) (fun v66 => bd (v66 + (1 : Int32)) (fun v67 => bd (va_up a62 39 (upd (a62 39) f.toNatClampNeg v67)) (fun a68 => x_receives_215 f g pb m61 a68 (0 : Int32) (0 : Int32)))) else bd (a62 35 f.toNatClampNeg) (fun v69 => (if v69 ≤ v65 then bd (a62 39 f.toNatClampNeg) (fun v70 => bd (v70 + (1 : Int32)) (fun v71 => bd (va_up a62 39 (upd (a62 39) f.toNatClampNeg v71)) (fun a72 => x_receives_215 f g pb m61 a72 (0 : Int32) (0 : Int32)))) else bd ((200 : Int32) * f) (fun v73 => bd (v73 + v65) (fun v74 => bd (a62 36 v74.toNatClampNeg) (fun v75 => (if v75 = (0 : Int32) then (if v65 ≤ (0 : Int32) then bd ((200 : Int32) * f) (fun v76 => bd (va_up a62 36 (upd (a62 36) v76.toNatClampNeg (vp_nar .boolean (1 : Int32)))) (fun a77 => x_receives_r f g pb 1000003000 129 m61 a77 (0 : Int32) 0)) else bd ((200 : Int32) * f) (fun v78 => bd (v78 + v65) (fun v79 => bd (va_up a62 36 (upd (a62 36) v79.toNatClampNeg (vp_nar .boolean (1 : Int32)))) (fun a80 => x_receives_215 f g pb m61 a80 (0 : Int32) (0 : Int32))))) else bd (a62 39 f.toNatClampNeg) (fun v81 => bd (v81 + (1 : Int32)) (fun v82 => bd (va_up a62 39 (upd (a62 39) f.toNatClampNeg v82)) (fun a83 => x_receives_215 f g pb m61 a83 (0 : Int32) (0 : Int32))))))))))))))))))))))
set_option maxHeartbeats 4000000 in
set_option maxRecDepth 100000 in
theorem m_receives (l : Launch) (D : va_G) (cI cJ cZ cO : ClassId) (sz : Nat) (h0 : Nat) (mq : Nat → Nat) (mi : Nat → Int32) (ma : Nat → Nat → Int32) (ph : Nat) (cl : Int) (f g pb : Int32) (hI : MB mi ma) (hf0 : 0 ≤ f.toInt) (hf4 : f.toInt < 4) (hff : f.toInt < (mi 32).toInt) (hg0 : 0 ≤ g.toInt) (hg1 : g.toInt ≤ 1000000) (hph : ph ≤ 1) (hc1 : -1100 ≤ cl) (hc2 : cl ≤ 512) (hw1 : (mi 10).toInt ≤ (mi 11).toInt) (hw2 : (mi 11).toInt ≤ (mi 10).toInt + 1002) (hU : DA ph (cl + 1) (mi 4) (mi 10) (mi 11) (mi 17) (mi 18) (mi 19) (ma 20) (ma 40) (ma 41)) : Met l yX11_receives (wa yX11_receives cX11_receives 8 none) ({ frames := 2, cells := 0, slots := 0, locals := 48 }) (va_Pc [.ref h0, .int f, .int g, .int pb] (pw_s D cI cJ cZ cO sz (mw cI cZ h0 mq mi ma))) (va_Qv (fun (_ : Unit) => True) (fun (_ : Unit) (t : State) => ∃ (mi2 : Nat → Int32) (ma2 : Nat → Nat → Int32), ((MB mi2 ma2 ∧ (∀ k, k ∉ ([29, 17, 18, 19] : List Nat) → mi2 k = mi k) ∧ (∀ k, k ∉ ([38, 39, 36, 34, 40, 37, 20, 21, 22, 23, 24, 25] : List Nat) → ma2 k = ma k) ∧ DA ph cl (mi2 4) (mi2 10) (mi2 11) (mi2 17) (mi2 18) (mi2 19) (ma2 20) (ma2 40) (ma2 41)) ∧ ∃ rr : Int32, (x_receives f g pb mi ma) = some (mi2, ma2, rr)) ∧ pw_t D cI cJ cZ cO (va_A (mw cI cZ h0 mq mi ma) sz) (mw cI cZ h0 mq mi2 ma2) t) (va_A (mw cI cZ h0 mq mi ma) sz)) 0 0 (va_A (mw cI cZ h0 mq mi ma) sz) := by
  refine Met.ofW (cc := cX11_receives) (maxL := 8) (ret := none) (by decide) rfl ?_
  intro p e s m args below meth c s₁ B hml hv
  obtain ⟨rfl, hsz, hP, hK, hD0, hN⟩ := hv
  have hx := B.exec
  have hb := B.bytes
  have hr := B.returns
  have hts := atoms_spec (ws := (wa yX11_receives cX11_receives 8 none)) B.pre
  have ha : ∀ w ∈ wsL_law, w.before _ s = true := fun w h => hts w (List.mem_cons_of_mem _ h)
  have hown : s.vm.findClass RX11 = some m.cls := findClass_of_methodNamed B.named
  have hlocks := B.notSynchronized
  subst hsz
  have hD := hD0.self (sz := s.heap.size)
  generalize hAe : va_A (mw cI cZ h0 mq mi ma) s.heap.size = A at hD ⊢
  have hA : ∀ q : Nat, s.heap.size ≤ q → A q := fun q h => by rw [← hAe]; exact Or.inr h
  have hS : va_S A s.heap s.heap [] := va_S.rf
  have hP : va_P D vwCl (mw cI cZ h0 mq mi ma) s.heap := hP
  have hl := lv_entry ([.ref h0, .int f, .int g, .int pb]) (n := 8) (Nat.le_of_ble_eq_true rfl)
  rw [lg_entry_eq]
  generalize (lg_sl ([.ref h0, .int f, .int g, .int pb]) ++ List.replicate (8 - (lg_sl ([.ref h0, .int f, .int g, .int pb])).length) Slot.unset).toArray = ls at hl ⊢
  have hl : lv_has ls 8 [(0, .ref h0), (1, .int f), (2, .int g), (3, .int pb)] := hl
  have kc_m1 := tk_m1
  have kc_0 := tk_0
  have kc_1 := tk_1
  have kc_100 := tk_100
  have kc_199 := tk_199
  have kc_200 := tk_200
  obtain ⟨mi0, hmi0⟩ : ∃ y, y = mi := ⟨_, rfl⟩
  obtain ⟨ma0, hma0⟩ : ∃ y, y = ma := ⟨_, rfl⟩
  have hFI : ∀ k, k ∉ ([29, 17, 18, 19] : List Nat) → mi k = mi0 k := fun k _ => by rw [hmi0]
  have hFA : ∀ k, k ∉ ([38, 39, 36, 34, 40, 37, 20, 21, 22, 23, 24, 25] : List Nat) → ma k = ma0 k := fun k _ => by rw [hma0]
  obtain ⟨QP, hQP⟩ : ∃ y : State → Prop, y = (MQ below (va_Qv (fun (_ : Unit) => True) (fun (_ : Unit) (t : State) => ∃ (mi2 : Nat → Int32) (ma2 : Nat → Nat → Int32), ((MB mi2 ma2 ∧ (∀ k, k ∉ ([29, 17, 18, 19] : List Nat) → mi2 k = mi k) ∧ (∀ k, k ∉ ([38, 39, 36, 34, 40, 37, 20, 21, 22, 23, 24, 25] : List Nat) → ma2 k = ma k) ∧ DA ph cl (mi2 4) (mi2 10) (mi2 11) (mi2 17) (mi2 18) (mi2 19) (ma2 20) (ma2 40) (ma2 41)) ∧ ∃ rr : Int32, (x_receives f g pb mi ma) = some (mi2, ma2, rr)) ∧ pw_t D cI cJ cZ cO A (mw cI cZ h0 mq mi2 ma2) t) A) #[(.ref h0 : Value), (.int f : Value), (.int g : Value), (.int pb : Value)] s 0 0 A) := ⟨_, rfl⟩
  obtain ⟨RES, hRES⟩ : ∃ y, y = (x_receives f g pb mi ma) := ⟨_, rfl⟩
  have hfN : f.toNatClampNeg < 4 := in_lt (vpi_of (n := 4) hf0 (by omega))
  have hle := MB_le2n hI f.toNatClampNeg hfN
  have hlh := MB_le2h hI f.toNatClampNeg hfN
  have J_215 : ∀ (mi : Nat → Int32) (ma : Nat → Nat → Int32) (i4 : Int32) (i5 : Int32) (H : Heap) (locs : List Loc), va_P D vwCl (mw cI cZ h0 mq mi ma) H → va_D A (mw cI cZ h0 mq mi ma) → va_S A s.heap H locs → MB mi ma → (∀ k, k ∉ ([29, 17, 18, 19] : List Nat) → mi k = mi0 k) → (∀ k, k ∉ ([38, 39, 36, 34, 40, 37, 20, 21, 22, 23, 24, 25] : List Nat) → ma k = ma0 k) → RES = x_receives_215 f g pb mi ma i4 i5 → DA ph (cl + 1) (mi 4) (mi 10) (mi 11) (mi 17) (mi 18) (mi 19) (ma 20) (ma 40) (ma 41) → ∀ (ls : Array Slot), lv_has ls 8 [(0, .ref h0), (1, .int f), (2, .int g), (3, .int pb), (4, .int i4), (5, .int i5)] → W p l e ({ frames := 2, cells := 0, slots := 0, locals := 48 }) s m #[(.ref h0 : Value), (.int f : Value), (.int g : Value), (.int pb : Value)] below meth c H locs 0 0 QP (F0 m 215 ls []) := by
    intro mi ma i4 i5 H locs hP hD hS hI hFI hFA hE hv ls hl
    have hfN : f.toNatClampNeg < 4 := in_lt (vpi_of (n := 4) hf0 (by omega))
    have hle := MB_le2n hI f.toNatClampNeg hfN
    have hlh := MB_le2h hI f.toNatClampNeg hfN
    rw [x_receives_215] at hE
    refine lv_aload_n hx hb dX11_receives_215 rfl (lv_at hl 0 rfl) ?_
    refine va_get (D := D) (ci := 11) (v := .ref (mq 33)) (C := RX11) (T := TX11) (N := 74) hx hb ha inlX11 hown hK hP 0 mw_at0 rfl 33 (by decide) (ha _ kf_X11_67) (fun _ h9 => h9) rfl dX11_receives_216 ?_
    refine lv_iload_n hx hb dX11_receives_219 rfl (lv_at hl 1 rfl) ?_
    have hin_1 : vp_in f 4 := vpi_of (by omega) (by omega)
    refine va_zald hx hb hK hP 15 2 mw_at33 rfl hin_1 dX11_receives_220 ?_
    refine lv_topi (fun x_2 ex_2 => ?_)
    have hE := bd_at ex_2 hE
    have u_x_2 := congrArg Int32.toInt ex_2
    refine lv_if_eq (tgt := 268) hx hb dX11_receives_221 (by decide) (fun c_3 => ?_) (fun c_3 => ?_)
    · have t_c_3 := congrArg Int32.toInt c_3
      have hE := hE.trans (if_pos c_3)
      refine lv_aload_n hx hb dX11_receives_268 rfl (lv_at hl 0 rfl) ?_
      refine lv_iload_n hx hb dX11_receives_269 rfl (lv_at hl 1 rfl) ?_
      refine lv_iload_n hx hb dX11_receives_270 rfl (lv_at hl 3 rfl) ?_
      refine lv_if_ne (tgt := 278) hx hb dX11_receives_271 (by decide) (fun c_4 => ?_) (fun c_4 => ?_)
      · have t_c_4 := mt Int32.toInt_inj.mp c_4
        have hE := hE.trans (if_neg c_4)
        refine lv_iconst (v := 0) hx hb dX11_receives_278 (by decide) ?_
        have hFc := va_freeW hD hS hA
        refine va_callv (va_runV (As := [.int f, .int 0]) (rest := []) ⟨hx, hb, hml, hown, ha⟩ (m_answer l D cI cJ cZ cO _ h0 mq mi ma ph cl f 0 hI hf0 hf4 (by rw [hFI 32 (by decide), hmi0]; exact hff) hph hc1 hc2 (by rw [hFI 10 (by decide), hFI 11 (by decide), hmi0]; exact hw1) (by rw [hFI 10 (by decide), hFI 11 (by decide), hmi0]; exact hw2) (da_sw (da_keep hv (rfl) (rfl) (rfl) (rfl) (rfl) (rfl) (rfl) (rfl) (rfl)) (by have o9 := owc_none (g := ma 40) (i := f.toNatClampNeg); omega))) (cwV 2 ha (gaV kl_X11_264 km_X11_answer ks_X11_answer kz_X11 kd_X11_answer) rfl rfl rfl (by decide +kernel) ⟨Nat.le_of_ble_eq_true rfl, Nat.le_of_ble_eq_true rfl⟩) ⟨pw_blind, va_recv hK hP (ci := 11) (q0 := 0) rfl rfl, fun U hU hW => ⟨rfl, pw_start hU hW hP hK hD hN⟩⟩ rfl rfl hl.1 rfl (lv_room (Nat.le_of_ble_eq_true rfl)) dX11_receives_279 ⟨Nat.le_of_ble_eq_true rfl, Nat.le_of_ble_eq_true rfl⟩) hS (fun q _ h => hFc q h) hFc (fun u t H1 locs ht hvm hw hB hz1 hk1 hS => ?_)
        obtain ⟨mi_6, ma_7, ⟨hf_8, rr_, hX⟩, hP, hK1, hD1⟩ := hB
        have hE := bo_at hX hE
        rw [ht] at hP
        have hD := hD1.weaken (fun k q _ h => hFc q.1 h)
        clear hD1
        generalize H1 = H at hP hS ⊢
        refine W.widen (k := 0) (n := 0) (Nat.le_refl _) (Nat.le_refl _) ?_
        have hI := hf_8.1
        have hFI : ∀ k, k ∉ ([29, 17, 18, 19] : List Nat) → mi_6 k = mi0 k := fun k hk => (hf_8.2.1 k (fun h => hk (by revert h; exact sub_of (by decide) k))).trans (hFI k hk)
        have hFA : ∀ k, k ∉ ([38, 39, 36, 34, 40, 37, 20, 21, 22, 23, 24, 25] : List Nat) → ma_7 k = ma0 k := fun k hk => (hf_8.2.2.1 k (fun h => hk (by revert h; exact sub_of (by decide) k))).trans (hFA k hk)
        rw [hQP]
        exact W.vret hx hb hr (fun t ht hW => ⟨⟨(), rfl, trivial, ⟨mi_6, ma_7, ⟨⟨hI, fun k hk => (hFI k hk).trans (by rw [hmi0]), fun k hk => (hFA k hk).trans (by rw [hma0]), hf_8.2.2.2⟩, _, hRES.symm.trans hE⟩, by rw [ht]; exact hP, va_K.moved hW.alike hK, hD⟩⟩, hS.F ht⟩) hS.2.2 dX11_receives_282
      · have t_c_4 := congrArg Int32.toInt c_4
        have hE := hE.trans (if_pos c_4)
        refine lv_iconst (v := 1) hx hb dX11_receives_274 (by decide) ?_
        refine lv_goto (tgt := 279) hx hb dX11_receives_275 (by decide) ?_
        have hFc := va_freeW hD hS hA
        refine va_callv (va_runV (As := [.int f, .int 1]) (rest := []) ⟨hx, hb, hml, hown, ha⟩ (m_answer l D cI cJ cZ cO _ h0 mq mi ma ph cl f 1 hI hf0 hf4 (by rw [hFI 32 (by decide), hmi0]; exact hff) hph hc1 hc2 (by rw [hFI 10 (by decide), hFI 11 (by decide), hmi0]; exact hw1) (by rw [hFI 10 (by decide), hFI 11 (by decide), hmi0]; exact hw2) (da_sw (da_keep hv (rfl) (rfl) (rfl) (rfl) (rfl) (rfl) (rfl) (rfl) (rfl)) (by have o9 := owc_none (g := ma 40) (i := f.toNatClampNeg); omega))) (cwV 2 ha (gaV kl_X11_264 km_X11_answer ks_X11_answer kz_X11 kd_X11_answer) rfl rfl rfl (by decide +kernel) ⟨Nat.le_of_ble_eq_true rfl, Nat.le_of_ble_eq_true rfl⟩) ⟨pw_blind, va_recv hK hP (ci := 11) (q0 := 0) rfl rfl, fun U hU hW => ⟨rfl, pw_start hU hW hP hK hD hN⟩⟩ rfl rfl hl.1 rfl (lv_room (Nat.le_of_ble_eq_true rfl)) dX11_receives_279 ⟨Nat.le_of_ble_eq_true rfl, Nat.le_of_ble_eq_true rfl⟩) hS (fun q _ h => hFc q h) hFc (fun u t H1 locs ht hvm hw hB hz1 hk1 hS => ?_)
        obtain ⟨mi_10, ma_11, ⟨hf_12, rr_, hX⟩, hP, hK1, hD1⟩ := hB
        have hE := bo_at hX hE
        rw [ht] at hP
        have hD := hD1.weaken (fun k q _ h => hFc q.1 h)
        clear hD1
        generalize H1 = H at hP hS ⊢
        refine W.widen (k := 0) (n := 0) (Nat.le_refl _) (Nat.le_refl _) ?_
        have hI := hf_12.1
        have hFI : ∀ k, k ∉ ([29, 17, 18, 19] : List Nat) → mi_10 k = mi0 k := fun k hk => (hf_12.2.1 k (fun h => hk (by revert h; exact sub_of (by decide) k))).trans (hFI k hk)
        have hFA : ∀ k, k ∉ ([38, 39, 36, 34, 40, 37, 20, 21, 22, 23, 24, 25] : List Nat) → ma_11 k = ma0 k := fun k hk => (hf_12.2.2.1 k (fun h => hk (by revert h; exact sub_of (by decide) k))).trans (hFA k hk)
        rw [hQP]
        exact W.vret hx hb hr (fun t ht hW => ⟨⟨(), rfl, trivial, ⟨mi_10, ma_11, ⟨⟨hI, fun k hk => (hFI k hk).trans (by rw [hmi0]), fun k hk => (hFA k hk).trans (by rw [hma0]), hf_12.2.2.2⟩, _, hRES.symm.trans hE⟩, by rw [ht]; exact hP, va_K.moved hW.alike hK, hD⟩⟩, hS.F ht⟩) hS.2.2 dX11_receives_282
    · have t_c_3 := mt Int32.toInt_inj.mp c_3
      have hE := hE.trans (if_neg c_3)
      refine lv_iload hx hb dX11_receives_224 (lv_at hl 5 rfl) ?_
      refine lv_if_eq (tgt := 268) hx hb dX11_receives_226 (by decide) (fun c_13 => ?_) (fun c_13 => ?_)
      · have t_c_13 := congrArg Int32.toInt c_13
        have hE := hE.trans (if_pos c_13)
        refine lv_aload_n hx hb dX11_receives_268 rfl (lv_at hl 0 rfl) ?_
        refine lv_iload_n hx hb dX11_receives_269 rfl (lv_at hl 1 rfl) ?_
        refine lv_iload_n hx hb dX11_receives_270 rfl (lv_at hl 3 rfl) ?_
        refine lv_if_ne (tgt := 278) hx hb dX11_receives_271 (by decide) (fun c_14 => ?_) (fun c_14 => ?_)
        · have t_c_14 := mt Int32.toInt_inj.mp c_14
          have hE := hE.trans (if_neg c_14)
          refine lv_iconst (v := 0) hx hb dX11_receives_278 (by decide) ?_
          have hFc := va_freeW hD hS hA
          refine va_callv (va_runV (As := [.int f, .int 0]) (rest := []) ⟨hx, hb, hml, hown, ha⟩ (m_answer l D cI cJ cZ cO _ h0 mq mi ma ph cl f 0 hI hf0 hf4 (by rw [hFI 32 (by decide), hmi0]; exact hff) hph hc1 hc2 (by rw [hFI 10 (by decide), hFI 11 (by decide), hmi0]; exact hw1) (by rw [hFI 10 (by decide), hFI 11 (by decide), hmi0]; exact hw2) (da_sw (da_keep hv (rfl) (rfl) (rfl) (rfl) (rfl) (rfl) (rfl) (rfl) (rfl)) (by have o9 := owc_none (g := ma 40) (i := f.toNatClampNeg); omega))) (cwV 2 ha (gaV kl_X11_264 km_X11_answer ks_X11_answer kz_X11 kd_X11_answer) rfl rfl rfl (by decide +kernel) ⟨Nat.le_of_ble_eq_true rfl, Nat.le_of_ble_eq_true rfl⟩) ⟨pw_blind, va_recv hK hP (ci := 11) (q0 := 0) rfl rfl, fun U hU hW => ⟨rfl, pw_start hU hW hP hK hD hN⟩⟩ rfl rfl hl.1 rfl (lv_room (Nat.le_of_ble_eq_true rfl)) dX11_receives_279 ⟨Nat.le_of_ble_eq_true rfl, Nat.le_of_ble_eq_true rfl⟩) hS (fun q _ h => hFc q h) hFc (fun u t H1 locs ht hvm hw hB hz1 hk1 hS => ?_)
          obtain ⟨mi_16, ma_17, ⟨hf_18, rr_, hX⟩, hP, hK1, hD1⟩ := hB
          have hE := bo_at hX hE
          rw [ht] at hP
          have hD := hD1.weaken (fun k q _ h => hFc q.1 h)
          clear hD1
          generalize H1 = H at hP hS ⊢
          refine W.widen (k := 0) (n := 0) (Nat.le_refl _) (Nat.le_refl _) ?_
          have hI := hf_18.1
          have hFI : ∀ k, k ∉ ([29, 17, 18, 19] : List Nat) → mi_16 k = mi0 k := fun k hk => (hf_18.2.1 k (fun h => hk (by revert h; exact sub_of (by decide) k))).trans (hFI k hk)
          have hFA : ∀ k, k ∉ ([38, 39, 36, 34, 40, 37, 20, 21, 22, 23, 24, 25] : List Nat) → ma_17 k = ma0 k := fun k hk => (hf_18.2.2.1 k (fun h => hk (by revert h; exact sub_of (by decide) k))).trans (hFA k hk)
          rw [hQP]
          exact W.vret hx hb hr (fun t ht hW => ⟨⟨(), rfl, trivial, ⟨mi_16, ma_17, ⟨⟨hI, fun k hk => (hFI k hk).trans (by rw [hmi0]), fun k hk => (hFA k hk).trans (by rw [hma0]), hf_18.2.2.2⟩, _, hRES.symm.trans hE⟩, by rw [ht]; exact hP, va_K.moved hW.alike hK, hD⟩⟩, hS.F ht⟩) hS.2.2 dX11_receives_282
        · have t_c_14 := congrArg Int32.toInt c_14
          have hE := hE.trans (if_pos c_14)
          refine lv_iconst (v := 1) hx hb dX11_receives_274 (by decide) ?_
          refine lv_goto (tgt := 279) hx hb dX11_receives_275 (by decide) ?_
          have hFc := va_freeW hD hS hA
          refine va_callv (va_runV (As := [.int f, .int 1]) (rest := []) ⟨hx, hb, hml, hown, ha⟩ (m_answer l D cI cJ cZ cO _ h0 mq mi ma ph cl f 1 hI hf0 hf4 (by rw [hFI 32 (by decide), hmi0]; exact hff) hph hc1 hc2 (by rw [hFI 10 (by decide), hFI 11 (by decide), hmi0]; exact hw1) (by rw [hFI 10 (by decide), hFI 11 (by decide), hmi0]; exact hw2) (da_sw (da_keep hv (rfl) (rfl) (rfl) (rfl) (rfl) (rfl) (rfl) (rfl) (rfl)) (by have o9 := owc_none (g := ma 40) (i := f.toNatClampNeg); omega))) (cwV 2 ha (gaV kl_X11_264 km_X11_answer ks_X11_answer kz_X11 kd_X11_answer) rfl rfl rfl (by decide +kernel) ⟨Nat.le_of_ble_eq_true rfl, Nat.le_of_ble_eq_true rfl⟩) ⟨pw_blind, va_recv hK hP (ci := 11) (q0 := 0) rfl rfl, fun U hU hW => ⟨rfl, pw_start hU hW hP hK hD hN⟩⟩ rfl rfl hl.1 rfl (lv_room (Nat.le_of_ble_eq_true rfl)) dX11_receives_279 ⟨Nat.le_of_ble_eq_true rfl, Nat.le_of_ble_eq_true rfl⟩) hS (fun q _ h => hFc q h) hFc (fun u t H1 locs ht hvm hw hB hz1 hk1 hS => ?_)
          obtain ⟨mi_20, ma_21, ⟨hf_22, rr_, hX⟩, hP, hK1, hD1⟩ := hB
          have hE := bo_at hX hE
          rw [ht] at hP
          have hD := hD1.weaken (fun k q _ h => hFc q.1 h)
          clear hD1
          generalize H1 = H at hP hS ⊢
          refine W.widen (k := 0) (n := 0) (Nat.le_refl _) (Nat.le_refl _) ?_
          have hI := hf_22.1
          have hFI : ∀ k, k ∉ ([29, 17, 18, 19] : List Nat) → mi_20 k = mi0 k := fun k hk => (hf_22.2.1 k (fun h => hk (by revert h; exact sub_of (by decide) k))).trans (hFI k hk)
          have hFA : ∀ k, k ∉ ([38, 39, 36, 34, 40, 37, 20, 21, 22, 23, 24, 25] : List Nat) → ma_21 k = ma0 k := fun k hk => (hf_22.2.2.1 k (fun h => hk (by revert h; exact sub_of (by decide) k))).trans (hFA k hk)
          rw [hQP]
          exact W.vret hx hb hr (fun t ht hW => ⟨⟨(), rfl, trivial, ⟨mi_20, ma_21, ⟨⟨hI, fun k hk => (hFI k hk).trans (by rw [hmi0]), fun k hk => (hFA k hk).trans (by rw [hma0]), hf_22.2.2.2⟩, _, hRES.symm.trans hE⟩, by rw [ht]; exact hP, va_K.moved hW.alike hK, hD⟩⟩, hS.F ht⟩) hS.2.2 dX11_receives_282
      · have t_c_13 := mt Int32.toInt_inj.mp c_13
        have hE := hE.trans (if_neg c_13)
        refine lv_iload hx hb dX11_receives_229 (lv_at hl 4 rfl) ?_
        refine lv_if_eq (tgt := 268) hx hb dX11_receives_231 (by decide) (fun c_23 => ?_) (fun c_23 => ?_)
        · have t_c_23 := congrArg Int32.toInt c_23
          have hE := hE.trans (if_pos c_23)
          refine lv_aload_n hx hb dX11_receives_268 rfl (lv_at hl 0 rfl) ?_
          refine lv_iload_n hx hb dX11_receives_269 rfl (lv_at hl 1 rfl) ?_
          refine lv_iload_n hx hb dX11_receives_270 rfl (lv_at hl 3 rfl) ?_
          refine lv_if_ne (tgt := 278) hx hb dX11_receives_271 (by decide) (fun c_24 => ?_) (fun c_24 => ?_)
          · have t_c_24 := mt Int32.toInt_inj.mp c_24
            have hE := hE.trans (if_neg c_24)
            refine lv_iconst (v := 0) hx hb dX11_receives_278 (by decide) ?_
            have hFc := va_freeW hD hS hA
            refine va_callv (va_runV (As := [.int f, .int 0]) (rest := []) ⟨hx, hb, hml, hown, ha⟩ (m_answer l D cI cJ cZ cO _ h0 mq mi ma ph cl f 0 hI hf0 hf4 (by rw [hFI 32 (by decide), hmi0]; exact hff) hph hc1 hc2 (by rw [hFI 10 (by decide), hFI 11 (by decide), hmi0]; exact hw1) (by rw [hFI 10 (by decide), hFI 11 (by decide), hmi0]; exact hw2) (da_sw (da_keep hv (rfl) (rfl) (rfl) (rfl) (rfl) (rfl) (rfl) (rfl) (rfl)) (by have o9 := owc_none (g := ma 40) (i := f.toNatClampNeg); omega))) (cwV 2 ha (gaV kl_X11_264 km_X11_answer ks_X11_answer kz_X11 kd_X11_answer) rfl rfl rfl (by decide +kernel) ⟨Nat.le_of_ble_eq_true rfl, Nat.le_of_ble_eq_true rfl⟩) ⟨pw_blind, va_recv hK hP (ci := 11) (q0 := 0) rfl rfl, fun U hU hW => ⟨rfl, pw_start hU hW hP hK hD hN⟩⟩ rfl rfl hl.1 rfl (lv_room (Nat.le_of_ble_eq_true rfl)) dX11_receives_279 ⟨Nat.le_of_ble_eq_true rfl, Nat.le_of_ble_eq_true rfl⟩) hS (fun q _ h => hFc q h) hFc (fun u t H1 locs ht hvm hw hB hz1 hk1 hS => ?_)
            obtain ⟨mi_26, ma_27, ⟨hf_28, rr_, hX⟩, hP, hK1, hD1⟩ := hB
            have hE := bo_at hX hE
            rw [ht] at hP
            have hD := hD1.weaken (fun k q _ h => hFc q.1 h)
            clear hD1
            generalize H1 = H at hP hS ⊢
            refine W.widen (k := 0) (n := 0) (Nat.le_refl _) (Nat.le_refl _) ?_
            have hI := hf_28.1
            have hFI : ∀ k, k ∉ ([29, 17, 18, 19] : List Nat) → mi_26 k = mi0 k := fun k hk => (hf_28.2.1 k (fun h => hk (by revert h; exact sub_of (by decide) k))).trans (hFI k hk)
            have hFA : ∀ k, k ∉ ([38, 39, 36, 34, 40, 37, 20, 21, 22, 23, 24, 25] : List Nat) → ma_27 k = ma0 k := fun k hk => (hf_28.2.2.1 k (fun h => hk (by revert h; exact sub_of (by decide) k))).trans (hFA k hk)
            rw [hQP]
            exact W.vret hx hb hr (fun t ht hW => ⟨⟨(), rfl, trivial, ⟨mi_26, ma_27, ⟨⟨hI, fun k hk => (hFI k hk).trans (by rw [hmi0]), fun k hk => (hFA k hk).trans (by rw [hma0]), hf_28.2.2.2⟩, _, hRES.symm.trans hE⟩, by rw [ht]; exact hP, va_K.moved hW.alike hK, hD⟩⟩, hS.F ht⟩) hS.2.2 dX11_receives_282
          · have t_c_24 := congrArg Int32.toInt c_24
            have hE := hE.trans (if_pos c_24)
            refine lv_iconst (v := 1) hx hb dX11_receives_274 (by decide) ?_
            refine lv_goto (tgt := 279) hx hb dX11_receives_275 (by decide) ?_
            have hFc := va_freeW hD hS hA
            refine va_callv (va_runV (As := [.int f, .int 1]) (rest := []) ⟨hx, hb, hml, hown, ha⟩ (m_answer l D cI cJ cZ cO _ h0 mq mi ma ph cl f 1 hI hf0 hf4 (by rw [hFI 32 (by decide), hmi0]; exact hff) hph hc1 hc2 (by rw [hFI 10 (by decide), hFI 11 (by decide), hmi0]; exact hw1) (by rw [hFI 10 (by decide), hFI 11 (by decide), hmi0]; exact hw2) (da_sw (da_keep hv (rfl) (rfl) (rfl) (rfl) (rfl) (rfl) (rfl) (rfl) (rfl)) (by have o9 := owc_none (g := ma 40) (i := f.toNatClampNeg); omega))) (cwV 2 ha (gaV kl_X11_264 km_X11_answer ks_X11_answer kz_X11 kd_X11_answer) rfl rfl rfl (by decide +kernel) ⟨Nat.le_of_ble_eq_true rfl, Nat.le_of_ble_eq_true rfl⟩) ⟨pw_blind, va_recv hK hP (ci := 11) (q0 := 0) rfl rfl, fun U hU hW => ⟨rfl, pw_start hU hW hP hK hD hN⟩⟩ rfl rfl hl.1 rfl (lv_room (Nat.le_of_ble_eq_true rfl)) dX11_receives_279 ⟨Nat.le_of_ble_eq_true rfl, Nat.le_of_ble_eq_true rfl⟩) hS (fun q _ h => hFc q h) hFc (fun u t H1 locs ht hvm hw hB hz1 hk1 hS => ?_)
            obtain ⟨mi_30, ma_31, ⟨hf_32, rr_, hX⟩, hP, hK1, hD1⟩ := hB
            have hE := bo_at hX hE
            rw [ht] at hP
            have hD := hD1.weaken (fun k q _ h => hFc q.1 h)
            clear hD1
            generalize H1 = H at hP hS ⊢
            refine W.widen (k := 0) (n := 0) (Nat.le_refl _) (Nat.le_refl _) ?_
            have hI := hf_32.1
            have hFI : ∀ k, k ∉ ([29, 17, 18, 19] : List Nat) → mi_30 k = mi0 k := fun k hk => (hf_32.2.1 k (fun h => hk (by revert h; exact sub_of (by decide) k))).trans (hFI k hk)
            have hFA : ∀ k, k ∉ ([38, 39, 36, 34, 40, 37, 20, 21, 22, 23, 24, 25] : List Nat) → ma_31 k = ma0 k := fun k hk => (hf_32.2.2.1 k (fun h => hk (by revert h; exact sub_of (by decide) k))).trans (hFA k hk)
            rw [hQP]
            exact W.vret hx hb hr (fun t ht hW => ⟨⟨(), rfl, trivial, ⟨mi_30, ma_31, ⟨⟨hI, fun k hk => (hFI k hk).trans (by rw [hmi0]), fun k hk => (hFA k hk).trans (by rw [hma0]), hf_32.2.2.2⟩, _, hRES.symm.trans hE⟩, by rw [ht]; exact hP, va_K.moved hW.alike hK, hD⟩⟩, hS.F ht⟩) hS.2.2 dX11_receives_282
        · have t_c_23 := mt Int32.toInt_inj.mp c_23
          have hE := hE.trans (if_neg c_23)
          refine lv_aload_n hx hb dX11_receives_234 rfl (lv_at hl 0 rfl) ?_
          refine lv_iload_n hx hb dX11_receives_235 rfl (lv_at hl 1 rfl) ?_
          have hFc := va_freeW hD hS hA
          refine va_calli (va_runV (As := [.int f]) (rest := []) ⟨hx, hb, hml, hown, ha⟩ (m_keptMany l D cI cJ cZ cO _ h0 mq mi ma ph cl f hI hf0 hf4) (cwV 1 ha (gaV kl_X11_260 km_X11_keptMany ks_X11_keptMany kz_X11 kd_X11_keptMany) rfl rfl rfl (by decide +kernel) ⟨Nat.le_of_ble_eq_true rfl, Nat.le_of_ble_eq_true rfl⟩) ⟨pw_blind, va_recv hK hP (ci := 11) (q0 := 0) rfl rfl, fun U hU hW => ⟨rfl, pw_start hU hW hP hK hD hN⟩⟩ rfl rfl hl.1 rfl (lv_room (Nat.le_of_ble_eq_true rfl)) dX11_receives_236 ⟨Nat.le_of_ble_eq_true rfl, Nat.le_of_ble_eq_true rfl⟩) hS (fun q _ h => hFc q h) hFc (fun r_33 u t H1 locs ht hvm hw hB hz1 hk1 hS => ?_)
          obtain ⟨mi_34, ma_35, ⟨hf_36, hX1, hX2⟩, hP, hK1, hD1⟩ := hB
          have hE := bc_at hX1 hX2 hw.2 hE
          rw [ht] at hP
          have hD := hD1.weaken (fun k q _ h => hFc q.1 h)
          clear hD1
          generalize H1 = H at hP hS ⊢
          refine W.widen (k := 0) (n := 0) (Nat.le_refl _) (Nat.le_refl _) ?_
          have hI := hf_36.1
          have hFI : ∀ k, k ∉ ([29, 17, 18, 19] : List Nat) → mi_34 k = mi0 k := fun k hk => (hf_36.2.1 k (fun h => hk (by revert h; exact sub_of (by decide) k))).trans (hFI k hk)
          have hFA : ∀ k, k ∉ ([38, 39, 36, 34, 40, 37, 20, 21, 22, 23, 24, 25] : List Nat) → ma_35 k = ma0 k := fun k hk => (hf_36.2.2 k (fun h => hk (by revert h; exact sub_of (by decide) k))).trans (hFA k hk)
          have hr_33 := hw.1
          refine lv_if_ne (tgt := 268) hx hb dX11_receives_239 (by decide) (fun c_37 => ?_) (fun c_37 => ?_)
          · have t_c_37 := mt Int32.toInt_inj.mp c_37
            have hE := hE.trans (if_neg c_37)
            refine lv_aload_n hx hb dX11_receives_268 rfl (lv_at hl 0 rfl) ?_
            refine lv_iload_n hx hb dX11_receives_269 rfl (lv_at hl 1 rfl) ?_
            refine lv_iload_n hx hb dX11_receives_270 rfl (lv_at hl 3 rfl) ?_
            refine lv_if_ne (tgt := 278) hx hb dX11_receives_271 (by decide) (fun c_38 => ?_) (fun c_38 => ?_)
            · have t_c_38 := mt Int32.toInt_inj.mp c_38
              have hE := hE.trans (if_neg c_38)
              refine lv_iconst (v := 0) hx hb dX11_receives_278 (by decide) ?_
              have hFc := va_freeW hD hS hA
              refine va_callv (va_runV (As := [.int f, .int 0]) (rest := []) ⟨hx, hb, hml, hown, ha⟩ (m_answer l D cI cJ cZ cO _ h0 mq mi_34 ma_35 ph cl f 0 hI hf0 hf4 (by rw [hFI 32 (by decide), hmi0]; exact hff) hph hc1 hc2 (by rw [hFI 10 (by decide), hFI 11 (by decide), hmi0]; exact hw1) (by rw [hFI 10 (by decide), hFI 11 (by decide), hmi0]; exact hw2) (da_sw (da_keep hv ((hf_36.2.1 4 (by decide))) ((hf_36.2.1 10 (by decide))) ((hf_36.2.1 11 (by decide))) ((hf_36.2.1 17 (by decide))) ((hf_36.2.1 18 (by decide))) ((hf_36.2.1 19 (by decide))) ((hf_36.2.2 20 (by decide))) ((hf_36.2.2 40 (by decide))) ((hf_36.2.2 41 (by decide)))) (by have o9 := owc_none (g := ma_35 40) (i := f.toNatClampNeg); omega))) (cwV 2 ha (gaV kl_X11_264 km_X11_answer ks_X11_answer kz_X11 kd_X11_answer) rfl rfl rfl (by decide +kernel) ⟨Nat.le_of_ble_eq_true rfl, Nat.le_of_ble_eq_true rfl⟩) ⟨pw_blind, va_recv hK hP (ci := 11) (q0 := 0) rfl rfl, fun U hU hW => ⟨rfl, pw_start hU hW hP hK hD hN⟩⟩ rfl rfl hl.1 rfl (lv_room (Nat.le_of_ble_eq_true rfl)) dX11_receives_279 ⟨Nat.le_of_ble_eq_true rfl, Nat.le_of_ble_eq_true rfl⟩) hS (fun q _ h => hFc q h) hFc (fun u t H1 locs ht hvm hw hB hz1 hk1 hS => ?_)
              obtain ⟨mi_40, ma_41, ⟨hf_42, rr_, hX⟩, hP, hK1, hD1⟩ := hB
              have hE := bo_at hX hE
              rw [ht] at hP
              have hD := hD1.weaken (fun k q _ h => hFc q.1 h)
              clear hD1
              generalize H1 = H at hP hS ⊢
              refine W.widen (k := 0) (n := 0) (Nat.le_refl _) (Nat.le_refl _) ?_
              have hI := hf_42.1
              have hFI : ∀ k, k ∉ ([29, 17, 18, 19] : List Nat) → mi_40 k = mi0 k := fun k hk => (hf_42.2.1 k (fun h => hk (by revert h; exact sub_of (by decide) k))).trans (hFI k hk)
              have hFA : ∀ k, k ∉ ([38, 39, 36, 34, 40, 37, 20, 21, 22, 23, 24, 25] : List Nat) → ma_41 k = ma0 k := fun k hk => (hf_42.2.2.1 k (fun h => hk (by revert h; exact sub_of (by decide) k))).trans (hFA k hk)
              rw [hQP]
              exact W.vret hx hb hr (fun t ht hW => ⟨⟨(), rfl, trivial, ⟨mi_40, ma_41, ⟨⟨hI, fun k hk => (hFI k hk).trans (by rw [hmi0]), fun k hk => (hFA k hk).trans (by rw [hma0]), hf_42.2.2.2⟩, _, hRES.symm.trans hE⟩, by rw [ht]; exact hP, va_K.moved hW.alike hK, hD⟩⟩, hS.F ht⟩) hS.2.2 dX11_receives_282
            · have t_c_38 := congrArg Int32.toInt c_38
              have hE := hE.trans (if_pos c_38)
              refine lv_iconst (v := 1) hx hb dX11_receives_274 (by decide) ?_
              refine lv_goto (tgt := 279) hx hb dX11_receives_275 (by decide) ?_
              have hFc := va_freeW hD hS hA
              refine va_callv (va_runV (As := [.int f, .int 1]) (rest := []) ⟨hx, hb, hml, hown, ha⟩ (m_answer l D cI cJ cZ cO _ h0 mq mi_34 ma_35 ph cl f 1 hI hf0 hf4 (by rw [hFI 32 (by decide), hmi0]; exact hff) hph hc1 hc2 (by rw [hFI 10 (by decide), hFI 11 (by decide), hmi0]; exact hw1) (by rw [hFI 10 (by decide), hFI 11 (by decide), hmi0]; exact hw2) (da_sw (da_keep hv ((hf_36.2.1 4 (by decide))) ((hf_36.2.1 10 (by decide))) ((hf_36.2.1 11 (by decide))) ((hf_36.2.1 17 (by decide))) ((hf_36.2.1 18 (by decide))) ((hf_36.2.1 19 (by decide))) ((hf_36.2.2 20 (by decide))) ((hf_36.2.2 40 (by decide))) ((hf_36.2.2 41 (by decide)))) (by have o9 := owc_none (g := ma_35 40) (i := f.toNatClampNeg); omega))) (cwV 2 ha (gaV kl_X11_264 km_X11_answer ks_X11_answer kz_X11 kd_X11_answer) rfl rfl rfl (by decide +kernel) ⟨Nat.le_of_ble_eq_true rfl, Nat.le_of_ble_eq_true rfl⟩) ⟨pw_blind, va_recv hK hP (ci := 11) (q0 := 0) rfl rfl, fun U hU hW => ⟨rfl, pw_start hU hW hP hK hD hN⟩⟩ rfl rfl hl.1 rfl (lv_room (Nat.le_of_ble_eq_true rfl)) dX11_receives_279 ⟨Nat.le_of_ble_eq_true rfl, Nat.le_of_ble_eq_true rfl⟩) hS (fun q _ h => hFc q h) hFc (fun u t H1 locs ht hvm hw hB hz1 hk1 hS => ?_)
              obtain ⟨mi_44, ma_45, ⟨hf_46, rr_, hX⟩, hP, hK1, hD1⟩ := hB
              have hE := bo_at hX hE
              rw [ht] at hP
              have hD := hD1.weaken (fun k q _ h => hFc q.1 h)
              clear hD1
              generalize H1 = H at hP hS ⊢
              refine W.widen (k := 0) (n := 0) (Nat.le_refl _) (Nat.le_refl _) ?_
              have hI := hf_46.1
              have hFI : ∀ k, k ∉ ([29, 17, 18, 19] : List Nat) → mi_44 k = mi0 k := fun k hk => (hf_46.2.1 k (fun h => hk (by revert h; exact sub_of (by decide) k))).trans (hFI k hk)
              have hFA : ∀ k, k ∉ ([38, 39, 36, 34, 40, 37, 20, 21, 22, 23, 24, 25] : List Nat) → ma_45 k = ma0 k := fun k hk => (hf_46.2.2.1 k (fun h => hk (by revert h; exact sub_of (by decide) k))).trans (hFA k hk)
              rw [hQP]
              exact W.vret hx hb hr (fun t ht hW => ⟨⟨(), rfl, trivial, ⟨mi_44, ma_45, ⟨⟨hI, fun k hk => (hFI k hk).trans (by rw [hmi0]), fun k hk => (hFA k hk).trans (by rw [hma0]), hf_46.2.2.2⟩, _, hRES.symm.trans hE⟩, by rw [ht]; exact hP, va_K.moved hW.alike hK, hD⟩⟩, hS.F ht⟩) hS.2.2 dX11_receives_282
          · have t_c_37 := congrArg Int32.toInt c_37
            have hE := hE.trans (if_pos c_37)
            refine lv_aload_n hx hb dX11_receives_242 rfl (lv_at hl 0 rfl) ?_
            refine va_get (D := D) (ci := 11) (v := .ref (mq 40)) (C := RX11) (T := TX11) (N := 74) hx hb ha inlX11 hown hK hP 0 mw_at0 rfl 40 (by decide) (ha _ kf_X11_88) (fun _ h9 => h9) rfl dX11_receives_243 ?_
            refine lv_iload_n hx hb dX11_receives_246 rfl (lv_at hl 1 rfl) ?_
            have hin_47 : vp_in f 4 := vpi_of (by omega) (by omega)
            refine va_iald hx hb hK hP 22 0 mw_at40 rfl hin_47 dX11_receives_247 ?_
            refine lv_topi (fun x_48 ex_48 => ?_)
            have hE := bd_at ex_48 hE
            have u_x_48 := congrArg Int32.toInt ex_48
            refine lv_iconst (v := (-1)) hx hb dX11_receives_248 (by decide) ?_
            refine lv_icmp_ne (tgt := 268) hx hb dX11_receives_249 (by decide) (fun c_49 => ?_) (fun c_49 => ?_)
            · have t_c_49 := mt Int32.toInt_inj.mp c_49
              have hE := hE.trans (if_neg c_49)
              refine lv_aload_n hx hb dX11_receives_268 rfl (lv_at hl 0 rfl) ?_
              refine lv_iload_n hx hb dX11_receives_269 rfl (lv_at hl 1 rfl) ?_
              refine lv_iload_n hx hb dX11_receives_270 rfl (lv_at hl 3 rfl) ?_
              refine lv_if_ne (tgt := 278) hx hb dX11_receives_271 (by decide) (fun c_50 => ?_) (fun c_50 => ?_)
              · have t_c_50 := mt Int32.toInt_inj.mp c_50
                have hE := hE.trans (if_neg c_50)
                refine lv_iconst (v := 0) hx hb dX11_receives_278 (by decide) ?_
                have hFc := va_freeW hD hS hA
                refine va_callv (va_runV (As := [.int f, .int 0]) (rest := []) ⟨hx, hb, hml, hown, ha⟩ (m_answer l D cI cJ cZ cO _ h0 mq mi_34 ma_35 ph cl f 0 hI hf0 hf4 (by rw [hFI 32 (by decide), hmi0]; exact hff) hph hc1 hc2 (by rw [hFI 10 (by decide), hFI 11 (by decide), hmi0]; exact hw1) (by rw [hFI 10 (by decide), hFI 11 (by decide), hmi0]; exact hw2) (da_sw (da_keep hv ((hf_36.2.1 4 (by decide))) ((hf_36.2.1 10 (by decide))) ((hf_36.2.1 11 (by decide))) ((hf_36.2.1 17 (by decide))) ((hf_36.2.1 18 (by decide))) ((hf_36.2.1 19 (by decide))) ((hf_36.2.2 20 (by decide))) ((hf_36.2.2 40 (by decide))) ((hf_36.2.2 41 (by decide)))) (by have o9 := owc_none (g := ma_35 40) (i := f.toNatClampNeg); omega))) (cwV 2 ha (gaV kl_X11_264 km_X11_answer ks_X11_answer kz_X11 kd_X11_answer) rfl rfl rfl (by decide +kernel) ⟨Nat.le_of_ble_eq_true rfl, Nat.le_of_ble_eq_true rfl⟩) ⟨pw_blind, va_recv hK hP (ci := 11) (q0 := 0) rfl rfl, fun U hU hW => ⟨rfl, pw_start hU hW hP hK hD hN⟩⟩ rfl rfl hl.1 rfl (lv_room (Nat.le_of_ble_eq_true rfl)) dX11_receives_279 ⟨Nat.le_of_ble_eq_true rfl, Nat.le_of_ble_eq_true rfl⟩) hS (fun q _ h => hFc q h) hFc (fun u t H1 locs ht hvm hw hB hz1 hk1 hS => ?_)
                obtain ⟨mi_52, ma_53, ⟨hf_54, rr_, hX⟩, hP, hK1, hD1⟩ := hB
                have hE := bo_at hX hE
                rw [ht] at hP
                have hD := hD1.weaken (fun k q _ h => hFc q.1 h)
                clear hD1
                generalize H1 = H at hP hS ⊢
                refine W.widen (k := 0) (n := 0) (Nat.le_refl _) (Nat.le_refl _) ?_
                have hI := hf_54.1
                have hFI : ∀ k, k ∉ ([29, 17, 18, 19] : List Nat) → mi_52 k = mi0 k := fun k hk => (hf_54.2.1 k (fun h => hk (by revert h; exact sub_of (by decide) k))).trans (hFI k hk)
                have hFA : ∀ k, k ∉ ([38, 39, 36, 34, 40, 37, 20, 21, 22, 23, 24, 25] : List Nat) → ma_53 k = ma0 k := fun k hk => (hf_54.2.2.1 k (fun h => hk (by revert h; exact sub_of (by decide) k))).trans (hFA k hk)
                rw [hQP]
                exact W.vret hx hb hr (fun t ht hW => ⟨⟨(), rfl, trivial, ⟨mi_52, ma_53, ⟨⟨hI, fun k hk => (hFI k hk).trans (by rw [hmi0]), fun k hk => (hFA k hk).trans (by rw [hma0]), hf_54.2.2.2⟩, _, hRES.symm.trans hE⟩, by rw [ht]; exact hP, va_K.moved hW.alike hK, hD⟩⟩, hS.F ht⟩) hS.2.2 dX11_receives_282
              · have t_c_50 := congrArg Int32.toInt c_50
                have hE := hE.trans (if_pos c_50)
                refine lv_iconst (v := 1) hx hb dX11_receives_274 (by decide) ?_
                refine lv_goto (tgt := 279) hx hb dX11_receives_275 (by decide) ?_
                have hFc := va_freeW hD hS hA
                refine va_callv (va_runV (As := [.int f, .int 1]) (rest := []) ⟨hx, hb, hml, hown, ha⟩ (m_answer l D cI cJ cZ cO _ h0 mq mi_34 ma_35 ph cl f 1 hI hf0 hf4 (by rw [hFI 32 (by decide), hmi0]; exact hff) hph hc1 hc2 (by rw [hFI 10 (by decide), hFI 11 (by decide), hmi0]; exact hw1) (by rw [hFI 10 (by decide), hFI 11 (by decide), hmi0]; exact hw2) (da_sw (da_keep hv ((hf_36.2.1 4 (by decide))) ((hf_36.2.1 10 (by decide))) ((hf_36.2.1 11 (by decide))) ((hf_36.2.1 17 (by decide))) ((hf_36.2.1 18 (by decide))) ((hf_36.2.1 19 (by decide))) ((hf_36.2.2 20 (by decide))) ((hf_36.2.2 40 (by decide))) ((hf_36.2.2 41 (by decide)))) (by have o9 := owc_none (g := ma_35 40) (i := f.toNatClampNeg); omega))) (cwV 2 ha (gaV kl_X11_264 km_X11_answer ks_X11_answer kz_X11 kd_X11_answer) rfl rfl rfl (by decide +kernel) ⟨Nat.le_of_ble_eq_true rfl, Nat.le_of_ble_eq_true rfl⟩) ⟨pw_blind, va_recv hK hP (ci := 11) (q0 := 0) rfl rfl, fun U hU hW => ⟨rfl, pw_start hU hW hP hK hD hN⟩⟩ rfl rfl hl.1 rfl (lv_room (Nat.le_of_ble_eq_true rfl)) dX11_receives_279 ⟨Nat.le_of_ble_eq_true rfl, Nat.le_of_ble_eq_true rfl⟩) hS (fun q _ h => hFc q h) hFc (fun u t H1 locs ht hvm hw hB hz1 hk1 hS => ?_)
                obtain ⟨mi_56, ma_57, ⟨hf_58, rr_, hX⟩, hP, hK1, hD1⟩ := hB
                have hE := bo_at hX hE
                rw [ht] at hP
                have hD := hD1.weaken (fun k q _ h => hFc q.1 h)
                clear hD1
                generalize H1 = H at hP hS ⊢
                refine W.widen (k := 0) (n := 0) (Nat.le_refl _) (Nat.le_refl _) ?_
                have hI := hf_58.1
                have hFI : ∀ k, k ∉ ([29, 17, 18, 19] : List Nat) → mi_56 k = mi0 k := fun k hk => (hf_58.2.1 k (fun h => hk (by revert h; exact sub_of (by decide) k))).trans (hFI k hk)
                have hFA : ∀ k, k ∉ ([38, 39, 36, 34, 40, 37, 20, 21, 22, 23, 24, 25] : List Nat) → ma_57 k = ma0 k := fun k hk => (hf_58.2.2.1 k (fun h => hk (by revert h; exact sub_of (by decide) k))).trans (hFA k hk)
                rw [hQP]
                exact W.vret hx hb hr (fun t ht hW => ⟨⟨(), rfl, trivial, ⟨mi_56, ma_57, ⟨⟨hI, fun k hk => (hFI k hk).trans (by rw [hmi0]), fun k hk => (hFA k hk).trans (by rw [hma0]), hf_58.2.2.2⟩, _, hRES.symm.trans hE⟩, by rw [ht]; exact hP, va_K.moved hW.alike hK, hD⟩⟩, hS.F ht⟩) hS.2.2 dX11_receives_282
            · have t_c_49 := congrArg Int32.toInt c_49
              have hE := hE.trans (if_pos c_49)
              refine lv_aload_n hx hb dX11_receives_252 rfl (lv_at hl 0 rfl) ?_
              refine va_get (D := D) (ci := 11) (v := .ref (mq 40)) (C := RX11) (T := TX11) (N := 74) hx hb ha inlX11 hown hK hP 0 mw_at0 rfl 40 (by decide) (ha _ kf_X11_88) (fun _ h9 => h9) rfl dX11_receives_253 ?_
              refine lv_iload_n hx hb dX11_receives_256 rfl (lv_at hl 1 rfl) ?_
              refine lv_aload_n hx hb dX11_receives_257 rfl (lv_at hl 0 rfl) ?_
              refine va_get (D := D) (ci := 11) (v := .int (mi_34 4)) (C := RX11) (T := TX11) (N := 74) hx hb ha inlX11 hown hK hP 0 mw_at0 rfl 4 (by decide) (ha _ kf_X11_207) (fun _ h9 => h9) rfl dX11_receives_258 ?_
              refine lv_topi (fun x_59 ex_59 => ?_)
              have hE := bd_at ex_59 hE
              have u_x_59 := congrArg Int32.toInt ex_59
              have r_x_59 := MB_tick hI
              rw [← ex_59] at r_x_59
              refine lv_bipush (v := 100) hx hb dX11_receives_261 (by decide) ?_
              refine lv_iadd hx hb dX11_receives_263 ?_
              refine lv_topi (fun x_60 ex_60 => ?_)
              have hE := bd_at ex_60 hE
              try have t_x_60 := ti_add ex_60 (by omega) (by omega)
              have hin_61 : vp_in f 4 := vpi_of (by omega) (by omega)
              refine va_iast hx hb hK hP hD hS 22 0 mw_at40 rfl hin_61 dX11_receives_264 (fun H locs hP hD hS => ?_)
              have hP : va_P D vwCl (mw cI cZ h0 mq mi_34 (va_up ma_35 40 (upd (ma_35 40) f.toNatClampNeg x_60))) H := mwP_40 hP
              have hD : va_D A (mw cI cZ h0 mq mi_34 (va_up ma_35 40 (upd (ma_35 40) f.toNatClampNeg x_60))) := mwD_40 hD
              generalize hma_62 : va_up ma_35 40 (upd (ma_35 40) f.toNatClampNeg x_60) = ma_62 at hP hD
              have hI : MB mi_34 ma_62 := by rw [← hma_62]; exact MBa_owed hI
              have hFA : ∀ k, k ∉ ([38, 39, 36, 34, 40, 37, 20, 21, 22, 23, 24, 25] : List Nat) → ma_62 k = ma0 k := fun k hk => by rw [← hma_62]; exact (va_up_ne _ _ (fun e => hk (by rw [e]; decide))).trans (hFA k hk)
              have hE := bs_at hma_62 hE
              refine lv_goto (tgt := 282) hx hb dX11_receives_265 (by decide) ?_
              rw [hQP]
              exact W.vret hx hb hr (fun t ht hW => ⟨⟨(), rfl, trivial, ⟨mi_34, ma_62, ⟨⟨hI, fun k hk => (hFI k hk).trans (by rw [hmi0]), fun k hk => (hFA k hk).trans (by rw [hma0]), (by rw [show ma_62 20 = ma_35 20 from mu_ne (k := 40) (j := 20) hma_62 (by decide), show ma_62 41 = ma_35 41 from mu_ne (k := 40) (j := 41) hma_62 (by decide), show ma_62 40 = upd (ma_35 40) f.toNatClampNeg x_60 from mu_eq hma_62]; exact da_sw (da_keep hv ((hf_36.2.1 4 (by decide))) ((hf_36.2.1 10 (by decide))) ((hf_36.2.1 11 (by decide))) ((hf_36.2.1 17 (by decide))) ((hf_36.2.1 18 (by decide))) ((hf_36.2.1 19 (by decide))) ((hf_36.2.2 20 (by decide))) ((hf_36.2.2 40 (by decide))) ((hf_36.2.2 41 (by decide)))) (by have o9 := owc_up (g := ma_35 40) (i := f.toNatClampNeg) (v := x_60); omega))⟩, _, hRES.symm.trans hE⟩, by rw [ht]; exact hP, va_K.moved hW.alike hK, hD⟩⟩, hS.F ht⟩) hS.2.2 dX11_receives_282
  have JG_r : ∀ (n_r : Nat), (∀ (mi : Nat → Int32) (ma : Nat → Nat → Int32) (i4 : Int32) (H : Heap) (locs : List Loc), va_P D vwCl (mw cI cZ h0 mq mi ma) H → va_D A (mw cI cZ h0 mq mi ma) → va_S A s.heap H locs → MB mi ma → (∀ k, k ∉ ([29, 17, 18, 19] : List Nat) → mi k = mi0 k) → (∀ k, k ∉ ([38, 39, 36, 34, 40, 37, 20, 21, 22, 23, 24, 25] : List Nat) → ma k = ma0 k) → RES = x_receives_r f g pb n_r 129 mi ma i4 0 → DA ph (cl + 1) (mi 4) (mi 10) (mi 11) (mi 17) (mi 18) (mi 19) (ma 20) (ma 40) (ma 41) → ∀ (ls : Array Slot), lv_has ls 8 [(0, .ref h0), (1, .int f), (2, .int g), (3, .int pb), (4, .int i4), (5, .int 1)] → ((1000002000 - (ma 34 f.toNatClampNeg).toInt * 1000).toNat) < n_r → W p l e ({ frames := 2, cells := 0, slots := 0, locals := 48 }) s m #[(.ref h0 : Value), (.int f : Value), (.int g : Value), (.int pb : Value)] below meth c H locs 0 0 QP (F0 m 129 ls [])) ∧ (∀ (mi : Nat → Int32) (ma : Nat → Nat → Int32) (i4 : Int32) (i7 : Int32) (H : Heap) (locs : List Loc), va_P D vwCl (mw cI cZ h0 mq mi ma) H → va_D A (mw cI cZ h0 mq mi ma) → va_S A s.heap H locs → MB mi ma → (∀ k, k ∉ ([29, 17, 18, 19] : List Nat) → mi k = mi0 k) → (∀ k, k ∉ ([38, 39, 36, 34, 40, 37, 20, 21, 22, 23, 24, 25] : List Nat) → ma k = ma0 k) → RES = x_receives_r f g pb n_r 145 mi ma i4 i7 → (DA ph (cl + 1) (mi 4) (mi 10) (mi 11) (mi 17) (mi 18) (mi 19) (ma 20) (ma 40) (ma 41) ∧ 0 ≤ i7.toInt ∧ i7.toInt ≤ 199 ∧ (ma 34 f.toNatClampNeg).toInt ≤ 1000000 ∧ ∀ j : Nat, (j : Int) < i7.toInt → ¬ ma 36 (200 * f.toNatClampNeg + j) = 0 → (ma 34 f.toNatClampNeg).toInt + j + 1 ≤ 1000000) → ∀ (ls : Array Slot), lv_has ls 8 [(0, .ref h0), (1, .int f), (2, .int g), (3, .int pb), (4, .int i4), (5, .int 1), (7, .int i7)] → ((1000001300 - (ma 34 f.toNatClampNeg).toInt * 1000 - i7.toInt).toNat) < n_r → W p l e ({ frames := 2, cells := 0, slots := 0, locals := 48 }) s m #[(.ref h0 : Value), (.int f : Value), (.int g : Value), (.int pb : Value)] below meth c H locs 0 0 QP (F0 m 145 ls [])) := by
    intro n_r
    induction n_r with
    | zero => exact ⟨(by intros; exact absurd ‹_ < 0› (Nat.not_lt_zero _)), (by intros; exact absurd ‹_ < 0› (Nat.not_lt_zero _))⟩
    | succ n_r ih_r =>
      obtain ⟨ih_129, ih_145⟩ := ih_r
      refine ⟨?_, ?_⟩
      · intro mi ma i4 H locs hP hD hS hI hFI hFA hE hv ls hl hm
        rw [x_receives_r] at hE
        have hE := hE.trans (if_pos rfl)
        have hfN : f.toNatClampNeg < 4 := in_lt (vpi_of (n := 4) hf0 (by omega))
        have hle := MB_le2n hI f.toNatClampNeg hfN
        have hlh := MB_le2h hI f.toNatClampNeg hfN
        have w9 := MB_wanted hI f.toNatClampNeg hfN
        refine lv_aload_n hx hb dX11_receives_129 rfl (lv_at hl 0 rfl) ?_
        refine va_get (D := D) (ci := 11) (v := .ref (mq 36)) (C := RX11) (T := TX11) (N := 74) hx hb ha inlX11 hown hK hP 0 mw_at0 rfl 36 (by decide) (ha _ kf_X11_76) (fun _ h9 => h9) rfl dX11_receives_130 ?_
        refine lv_sipush (v := 200) hx hb dX11_receives_133 (by decide) ?_
        refine lv_iload_n hx hb dX11_receives_136 rfl (lv_at hl 1 rfl) ?_
        refine lv_imul hx hb dX11_receives_137 ?_
        refine lv_topi (fun x_63 ex_63 => ?_)
        have hE := bd_at ex_63 hE
        try have t_x_63 := ti_mulc (k := 200) ex_63 tk_200 (by omega) (by omega)
        have hin_64 : vp_in x_63 800 := vpi_of (by omega) (by omega)
        refine va_zald hx hb hK hP 18 2 mw_at36 rfl hin_64 dX11_receives_138 ?_
        refine lv_topi (fun x_65 ex_65 => ?_)
        have hE := bd_at ex_65 hE
        have u_x_65 := congrArg Int32.toInt ex_65
        refine lv_if_eq (tgt := 215) hx hb dX11_receives_139 (by decide) (fun c_66 => ?_) (fun c_66 => ?_)
        · have t_c_66 := congrArg Int32.toInt c_66
          have hE := hE.trans (if_pos c_66)
          exact J_215 mi ma i4 (1 : Int32) _ _ hP hD hS hI hFI hFA hE (da_keep hv (rfl) (rfl) (rfl) (rfl) (rfl) (rfl) (rfl) (rfl) (rfl)) _ (lv_sub hl [0, 1, 2, 3, 4, 5] rfl)
        · have t_c_66 := mt Int32.toInt_inj.mp c_66
          have hE := hE.trans (if_neg c_66)
          have c1 := cl_toInt (i := x_63) (by omega)
          have c2 := cl_toInt hf0
          have kW := MB_kpt hI f.toNatClampNeg 0 hfN (by omega) (fun q => c_66 (ex_65.trans ((congrArg (ma 36) (show x_63.toNatClampNeg = 200 * f.toNatClampNeg + 0 by omega)).trans q)))
          refine lv_iconst (v := 0) hx hb dX11_receives_142 (by decide) ?_
          refine lv_istore (lv' := [(7, .int 0), (0, .ref h0), (1, .int f), (2, .int g), (3, .int pb), (4, .int i4), (5, .int 1)]) hx hb dX11_receives_143 hl (by decide) rfl (fun ls hl => ?_)
          exact ih_145 mi ma i4 (0 : Int32) _ _ hP hD hS hI hFI hFA hE ⟨hv, by omega, by omega, by omega, fun j hj => by omega⟩ _ (lv_sub hl [1, 2, 3, 4, 5, 6, 0] rfl) (by omega)
      · intro mi ma i4 i7 H locs hP hD hS hI hFI hFA hE hv ls hl hm
        rw [x_receives_r] at hE
        have hE := hE.trans (if_neg (by decide))
        have hfN : f.toNatClampNeg < 4 := in_lt (vpi_of (n := 4) hf0 (by omega))
        have hle := MB_le2n hI f.toNatClampNeg hfN
        have hlh := MB_le2h hI f.toNatClampNeg hfN
        have w9 := MB_wanted hI f.toNatClampNeg hfN
        refine lv_iload hx hb dX11_receives_145 (lv_at hl 6 rfl) ?_
        refine lv_sipush (v := 199) hx hb dX11_receives_147 (by decide) ?_
        refine lv_icmp_ge (tgt := 187) hx hb dX11_receives_150 (by decide) (fun c_67 => ?_) (fun c_67 => ?_)
        · have t_c_67 := Int32.le_iff_toInt_le.mp c_67
          have hE := hE.trans (if_pos c_67)
          refine lv_aload_n hx hb dX11_receives_187 rfl (lv_at hl 0 rfl) ?_
          refine va_get (D := D) (ci := 11) (v := .ref (mq 36)) (C := RX11) (T := TX11) (N := 74) hx hb ha inlX11 hown hK hP 0 mw_at0 rfl 36 (by decide) (ha _ kf_X11_76) (fun _ h9 => h9) rfl dX11_receives_188 ?_
          refine lv_sipush (v := 200) hx hb dX11_receives_191 (by decide) ?_
          refine lv_iload_n hx hb dX11_receives_194 rfl (lv_at hl 1 rfl) ?_
          refine lv_imul hx hb dX11_receives_195 ?_
          refine lv_topi (fun x_68 ex_68 => ?_)
          have hE := bd_at ex_68 hE
          try have t_x_68 := ti_mulc (k := 200) ex_68 tk_200 (by omega) (by omega)
          refine lv_sipush (v := 199) hx hb dX11_receives_196 (by decide) ?_
          refine lv_iadd hx hb dX11_receives_199 ?_
          refine lv_topi (fun x_69 ex_69 => ?_)
          have hE := bd_at ex_69 hE
          try have t_x_69 := ti_add ex_69 (by omega) (by omega)
          refine lv_iconst (v := 0) hx hb dX11_receives_200 (by decide) ?_
          have hin_70 : vp_in x_69 800 := vpi_of (by omega) (by omega)
          refine va_zast hx hb hK hP hD hS 18 2 mw_at36 rfl hin_70 dX11_receives_201 (fun H locs hP hD hS => ?_)
          have hP : va_P D vwCl (mw cI cZ h0 mq mi (va_up ma 36 (upd (ma 36) x_69.toNatClampNeg (vp_nar .boolean (0 : Int32))))) H := mwP_36 hP
          have hD : va_D A (mw cI cZ h0 mq mi (va_up ma 36 (upd (ma 36) x_69.toNatClampNeg (vp_nar .boolean (0 : Int32))))) := mwD_36 hD
          generalize hma_71 : va_up ma 36 (upd (ma 36) x_69.toNatClampNeg (vp_nar .boolean (0 : Int32))) = ma_71 at hP hD
          have hI : MB mi ma_71 := by rw [← hma_71]; exact MBa_kp hI (f := f.toNatClampNeg) (j := 199) (by have c1 := cl_toInt (i := x_69) (by omega); have c2 := cl_toInt hf0; omega) (by omega) (fun n9 => absurd (by decide) n9)
          have hFA : ∀ k, k ∉ ([38, 39, 36, 34, 40, 37, 20, 21, 22, 23, 24, 25] : List Nat) → ma_71 k = ma0 k := fun k hk => by rw [← hma_71]; exact (va_up_ne _ _ (fun e => hk (by rw [e]; decide))).trans (hFA k hk)
          have hE := bs_at hma_71 hE
          have lk_34 : (ma_71 34 f.toNatClampNeg).toInt = (ma 34 f.toNatClampNeg).toInt := congrArg Int32.toInt (congrFun ((congrFun hma_71 34).symm) f.toNatClampNeg)
          have k9 := kp_last (f := f.toNatClampNeg) (W := (ma 34 f.toNatClampNeg).toInt) (a := i7) (k2 := ma_71 36) (by omega) hv.2.2.2.2 (i1 := x_69.toNatClampNeg) (by have c1 := cl_toInt (i := x_69) (by omega); have c2 := cl_toInt hf0; omega) (mu_eq (k := 36) hma_71)
          refine lv_aload_n hx hb dX11_receives_202 rfl (lv_at hl 0 rfl) ?_
          refine va_get (D := D) (ci := 11) (v := .ref (mq 34)) (C := RX11) (T := TX11) (N := 74) hx hb ha inlX11 hown hK hP 0 mw_at0 rfl 34 (by decide) (ha _ kf_X11_70) (fun _ h9 => h9) rfl dX11_receives_203 ?_
          refine lv_iload_n hx hb dX11_receives_206 rfl (lv_at hl 1 rfl) ?_
          refine lv_dup2_11 hx hb dX11_receives_207 rfl rfl ?_
          have hin_72 : vp_in f 4 := vpi_of (by omega) (by omega)
          refine va_iald hx hb hK hP 16 0 mw_at34 rfl hin_72 dX11_receives_208 ?_
          refine lv_topi (fun x_73 ex_73 => ?_)
          have hE := bd_at ex_73 hE
          have u_x_73 := congrArg Int32.toInt ex_73
          have r_x_73 := rg_ld (MB_wanted hI) hin_72 ex_73
          refine lv_iconst (v := 1) hx hb dX11_receives_209 (by decide) ?_
          refine lv_iadd hx hb dX11_receives_210 ?_
          refine lv_topi (fun x_74 ex_74 => ?_)
          have hE := bd_at ex_74 hE
          try have t_x_74 := ti_add ex_74 (by omega) (by omega)
          have hin_75 : vp_in f 4 := vpi_of (by omega) (by omega)
          refine va_iast hx hb hK hP hD hS 16 0 mw_at34 rfl hin_75 dX11_receives_211 (fun H locs hP hD hS => ?_)
          have hP : va_P D vwCl (mw cI cZ h0 mq mi (va_up ma_71 34 (upd (ma_71 34) f.toNatClampNeg x_74))) H := mwP_34 hP
          have hD : va_D A (mw cI cZ h0 mq mi (va_up ma_71 34 (upd (ma_71 34) f.toNatClampNeg x_74))) := mwD_34 hD
          generalize hma_76 : va_up ma_71 34 (upd (ma_71 34) f.toNatClampNeg x_74) = ma_76 at hP hD
          have hI : MB mi ma_76 := by rw [← hma_76]; exact MBa_wan hI (by omega) (by omega) (fun j hj hn => by have k8 := k9 j hj hn; omega)
          have hFA : ∀ k, k ∉ ([38, 39, 36, 34, 40, 37, 20, 21, 22, 23, 24, 25] : List Nat) → ma_76 k = ma0 k := fun k hk => by rw [← hma_76]; exact (va_up_ne _ _ (fun e => hk (by rw [e]; decide))).trans (hFA k hk)
          have hE := bs_at hma_76 hE
          have pw : (ma_76 34 f.toNatClampNeg).toInt = x_74.toInt := congrArg Int32.toInt ((congrFun (congrFun hma_76 34) f.toNatClampNeg).symm.trans (if_pos rfl))
          refine lv_goto (tgt := 129) hx hb dX11_receives_212 (by decide) ?_
          have w9 := MB_wanted hI f.toNatClampNeg hfN
          exact ih_129 mi ma_76 i4 _ _ hP hD hS hI hFI hFA hE (da_keep hv.1 (rfl) (rfl) (rfl) (rfl) (rfl) (rfl) (((mu_ne (k := 34) (j := 20) hma_76 (by decide))).trans ((mu_ne (k := 36) (j := 20) hma_71 (by decide)))) (((mu_ne (k := 34) (j := 40) hma_76 (by decide))).trans ((mu_ne (k := 36) (j := 40) hma_71 (by decide)))) (((mu_ne (k := 34) (j := 41) hma_76 (by decide))).trans ((mu_ne (k := 36) (j := 41) hma_71 (by decide))))) _ (lv_sub hl [0, 1, 2, 3, 4, 5] rfl) (by omega)
        · have t_c_67 := Int32.lt_iff_toInt_lt.mp (Int32.not_le.mp c_67)
          have hE := hE.trans (if_neg c_67)
          have hI0 := hI
          refine lv_aload_n hx hb dX11_receives_153 rfl (lv_at hl 0 rfl) ?_
          refine va_get (D := D) (ci := 11) (v := .ref (mq 36)) (C := RX11) (T := TX11) (N := 74) hx hb ha inlX11 hown hK hP 0 mw_at0 rfl 36 (by decide) (ha _ kf_X11_76) (fun _ h9 => h9) rfl dX11_receives_154 ?_
          refine lv_sipush (v := 200) hx hb dX11_receives_157 (by decide) ?_
          refine lv_iload_n hx hb dX11_receives_160 rfl (lv_at hl 1 rfl) ?_
          refine lv_imul hx hb dX11_receives_161 ?_
          refine lv_topi (fun x_77 ex_77 => ?_)
          have hE := bd_at ex_77 hE
          try have t_x_77 := ti_mulc (k := 200) ex_77 tk_200 (by omega) (by omega)
          refine lv_iload hx hb dX11_receives_162 (lv_at hl 6 rfl) ?_
          refine lv_iadd hx hb dX11_receives_164 ?_
          refine lv_topi (fun x_78 ex_78 => ?_)
          have hE := bd_at ex_78 hE
          try have t_x_78 := ti_add ex_78 (by omega) (by omega)
          refine lv_aload_n hx hb dX11_receives_165 rfl (lv_at hl 0 rfl) ?_
          refine va_get (D := D) (ci := 11) (v := .ref (mq 36)) (C := RX11) (T := TX11) (N := 74) hx hb ha inlX11 hown hK hP 0 mw_at0 rfl 36 (by decide) (ha _ kf_X11_76) (fun _ h9 => h9) rfl dX11_receives_166 ?_
          refine lv_sipush (v := 200) hx hb dX11_receives_169 (by decide) ?_
          refine lv_iload_n hx hb dX11_receives_172 rfl (lv_at hl 1 rfl) ?_
          refine lv_imul hx hb dX11_receives_173 ?_
          refine lv_topi (fun x_79 ex_79 => ?_)
          have hE := bd_at ex_79 hE
          try have t_x_79 := ti_mulc (k := 200) ex_79 tk_200 (by omega) (by omega)
          refine lv_iload hx hb dX11_receives_174 (lv_at hl 6 rfl) ?_
          refine lv_iadd hx hb dX11_receives_176 ?_
          refine lv_topi (fun x_80 ex_80 => ?_)
          have hE := bd_at ex_80 hE
          try have t_x_80 := ti_add ex_80 (by omega) (by omega)
          refine lv_iconst (v := 1) hx hb dX11_receives_177 (by decide) ?_
          refine lv_iadd hx hb dX11_receives_178 ?_
          refine lv_topi (fun x_81 ex_81 => ?_)
          have hE := bd_at ex_81 hE
          try have t_x_81 := ti_add ex_81 (by omega) (by omega)
          have hin_82 : vp_in x_81 800 := vpi_of (by omega) (by omega)
          refine va_zald hx hb hK hP 18 2 mw_at36 rfl hin_82 dX11_receives_179 ?_
          refine lv_topi (fun x_83 ex_83 => ?_)
          have hE := bd_at ex_83 hE
          have u_x_83 := congrArg Int32.toInt ex_83
          have c1 := cl_toInt (i := x_81) (by omega)
          have c2 := cl_toInt hf0
          have c3 := cl_toInt (i := i7) (by omega)
          have c4 := cl_toInt (i := x_78) (by omega)
          have hin_84 : vp_in x_78 800 := vpi_of (by omega) (by omega)
          refine va_zast hx hb hK hP hD hS 18 2 mw_at36 rfl hin_84 dX11_receives_180 (fun H locs hP hD hS => ?_)
          have hP : va_P D vwCl (mw cI cZ h0 mq mi (va_up ma 36 (upd (ma 36) x_78.toNatClampNeg (vp_nar .boolean x_83)))) H := mwP_36 hP
          have hD : va_D A (mw cI cZ h0 mq mi (va_up ma 36 (upd (ma 36) x_78.toNatClampNeg (vp_nar .boolean x_83)))) := mwD_36 hD
          generalize hma_85 : va_up ma 36 (upd (ma 36) x_78.toNatClampNeg (vp_nar .boolean x_83)) = ma_85 at hP hD
          have hI : MB mi ma_85 := by rw [← hma_85]; exact MBa_kp hI (f := f.toNatClampNeg) (j := i7.toNatClampNeg) (by omega) (by omega) (fun n9 => by have n8 := nar_nz n9; rw [ex_83, show x_81.toNatClampNeg = 200 * f.toNatClampNeg + (i7.toNatClampNeg + 1) by omega] at n8; have n7 := MB_kpt hI f.toNatClampNeg (i7.toNatClampNeg + 1) hfN (by omega) n8; omega)
          have hFA : ∀ k, k ∉ ([38, 39, 36, 34, 40, 37, 20, 21, 22, 23, 24, 25] : List Nat) → ma_85 k = ma0 k := fun k hk => by rw [← hma_85]; exact (va_up_ne _ _ (fun e => hk (by rw [e]; decide))).trans (hFA k hk)
          have hE := bs_at hma_85 hE
          obtain ⟨x_86, ex_86⟩ : ∃ y : Int32, y = i7 + 1 := ⟨_, rfl⟩
          have hE := bd_at ex_86 hE
          refine lv_iinc (v := x_86) (lv' := [(7, .int x_86), (0, .ref h0), (1, .int f), (2, .int g), (3, .int pb), (4, .int i4), (5, .int 1)]) hx hb dX11_receives_181 hl (k := 6) rfl (by rw [ex_86]; rfl) (by decide) rfl (fun ls hl => ?_)
          try have t_x_86 := ti_add ex_86 (by omega) (by omega)
          refine lv_goto (tgt := 145) hx hb dX11_receives_184 (by decide) ?_
          have lk_34 : (ma_85 34 f.toNatClampNeg).toInt = (ma 34 f.toNatClampNeg).toInt := congrArg Int32.toInt (congrFun ((congrFun hma_85 34).symm) f.toNatClampNeg)
          exact ih_145 mi ma_85 i4 x_86 _ _ hP hD hS hI hFI hFA hE ⟨da_keep hv.1 (rfl) (rfl) (rfl) (rfl) (rfl) (rfl) ((mu_ne (k := 36) (j := 20) hma_85 (by decide))) ((mu_ne (k := 36) (j := 40) hma_85 (by decide))) ((mu_ne (k := 36) (j := 41) hma_85 (by decide))), by omega, by omega, by have q9 := congrArg Int32.toInt (congrFun ((mu_ne (k := 36) (j := 34) hma_85 (by decide))) f.toNatClampNeg); omega, by rw [show ma_85 34 = ma 34 from (mu_ne (k := 36) (j := 34) hma_85 (by decide))]; exact kp_shift (a := i7) (by omega) (by omega) (fun j hj hn => MB_kpt hI0 f.toNatClampNeg j hfN hj hn) hv.2.2.2.2 (by omega) (by omega) ex_83 (mu_eq (k := 36) hma_85) (by omega)⟩ _ (lv_sub hl [1, 2, 3, 4, 5, 6, 0] rfl) (by omega)
  -- from the entry
  rw [hQP] at J_215
  rw [hQP] at JG_r
  have hE := hRES
  unfold x_receives at hE
  have hE := ax_at (⟨hI, ⟨hf0, hff⟩, hg0, hg1⟩) hE
  refine lv_aload_n hx hb dX11_receives_0 rfl (lv_at hl 0 rfl) ?_
  refine lv_dup hx hb dX11_receives_1 rfl ?_
  refine va_get (D := D) (ci := 11) (v := .int (mi 29)) (C := RX11) (T := TX11) (N := 74) hx hb ha inlX11 hown hK hP 0 mw_at0 rfl 29 (by decide) (ha _ kf_X11_257) (fun _ h9 => h9) rfl dX11_receives_2 ?_
  refine lv_topi (fun x_87 ex_87 => ?_)
  have hE := bd_at ex_87 hE
  have u_x_87 := congrArg Int32.toInt ex_87
  refine lv_iconst (v := 1) hx hb dX11_receives_5 (by decide) ?_
  refine lv_iadd hx hb dX11_receives_6 ?_
  refine lv_topi (fun x_88 ex_88 => ?_)
  have hE := bd_at ex_88 hE
  try have t_x_88 := ti_add ex_88 (by omega) (by omega)
  refine va_put (D := D) (ci := 11) (v := .int x_88) (ty := .int) (C := RX11) (T := TX11) (N := 74) hx hb ha inlX11 tyX11 tyX11_ok nmX11 hown hK hP hD hS 0 mw_at0 rfl 29 (by decide) (ha _ kf_X11_257) (fun _ h9 => h9) rfl (by decide +kernel) rfl rfl (Nat.le_of_ble_eq_true rfl) dX11_receives_7 (fun H locs hP hD hS => ?_)
  have hP : va_P D vwCl (mw cI cZ h0 mq (upd mi 29 x_88) ma) H := mwP_29 hP
  have hD : va_D A (mw cI cZ h0 mq (upd mi 29 x_88) ma) := mwD_29 hD
  generalize hmi_89 : upd mi 29 x_88 = mi_89 at hP hD
  have hI : MB mi_89 ma := by rw [← hmi_89]; exact MBi_came hI
  have hFI : ∀ k, k ∉ ([29, 17, 18, 19] : List Nat) → mi_89 k = mi0 k := fun k hk => by rw [← hmi_89]; exact (if_neg (fun e => hk (by rw [e]; decide))).trans (hFI k hk)
  have hE := bs_at hmi_89 hE
  refine lv_aload_n hx hb dX11_receives_10 rfl (lv_at hl 0 rfl) ?_
  refine va_get (D := D) (ci := 11) (v := .ref (mq 38)) (C := RX11) (T := TX11) (N := 74) hx hb ha inlX11 hown hK hP 0 mw_at0 rfl 38 (by decide) (ha _ kf_X11_82) (fun _ h9 => h9) rfl dX11_receives_11 ?_
  refine lv_iload_n hx hb dX11_receives_14 rfl (lv_at hl 1 rfl) ?_
  refine lv_dup2_11 hx hb dX11_receives_15 rfl rfl ?_
  have hin_90 : vp_in f 4 := vpi_of (by omega) (by omega)
  refine va_iald hx hb hK hP 20 0 mw_at38 rfl hin_90 dX11_receives_16 ?_
  refine lv_topi (fun x_91 ex_91 => ?_)
  have hE := bd_at ex_91 hE
  have u_x_91 := congrArg Int32.toInt ex_91
  refine lv_iconst (v := 1) hx hb dX11_receives_17 (by decide) ?_
  refine lv_iadd hx hb dX11_receives_18 ?_
  refine lv_topi (fun x_92 ex_92 => ?_)
  have hE := bd_at ex_92 hE
  try have t_x_92 := ti_add ex_92 (by omega) (by omega)
  have hin_93 : vp_in f 4 := vpi_of (by omega) (by omega)
  refine va_iast hx hb hK hP hD hS 20 0 mw_at38 rfl hin_93 dX11_receives_19 (fun H locs hP hD hS => ?_)
  have hP : va_P D vwCl (mw cI cZ h0 mq mi_89 (va_up ma 38 (upd (ma 38) f.toNatClampNeg x_92))) H := mwP_38 hP
  have hD : va_D A (mw cI cZ h0 mq mi_89 (va_up ma 38 (upd (ma 38) f.toNatClampNeg x_92))) := mwD_38 hD
  generalize hma_94 : va_up ma 38 (upd (ma 38) f.toNatClampNeg x_92) = ma_94 at hP hD
  have hI : MB mi_89 ma_94 := by rw [← hma_94]; exact MBa_cameTo hI
  have hFA : ∀ k, k ∉ ([38, 39, 36, 34, 40, 37, 20, 21, 22, 23, 24, 25] : List Nat) → ma_94 k = ma0 k := fun k hk => by rw [← hma_94]; exact (va_up_ne _ _ (fun e => hk (by rw [e]; decide))).trans (hFA k hk)
  have hE := bs_at hma_94 hE
  refine lv_aload_n hx hb dX11_receives_20 rfl (lv_at hl 0 rfl) ?_
  refine lv_iload_n hx hb dX11_receives_21 rfl (lv_at hl 1 rfl) ?_
  have hFc := va_freeW hD hS hA
  refine va_calli (va_runV (As := [.int f]) (rest := []) ⟨hx, hb, hml, hown, ha⟩ (m_keptMany l D cI cJ cZ cO _ h0 mq mi_89 ma_94 ph cl f hI hf0 hf4) (cwV 1 ha (gaV kl_X11_260 km_X11_keptMany ks_X11_keptMany kz_X11 kd_X11_keptMany) rfl rfl rfl (by decide +kernel) ⟨Nat.le_of_ble_eq_true rfl, Nat.le_of_ble_eq_true rfl⟩) ⟨pw_blind, va_recv hK hP (ci := 11) (q0 := 0) rfl rfl, fun U hU hW => ⟨rfl, pw_start hU hW hP hK hD hN⟩⟩ rfl rfl hl.1 rfl (lv_room (Nat.le_of_ble_eq_true rfl)) dX11_receives_22 ⟨Nat.le_of_ble_eq_true rfl, Nat.le_of_ble_eq_true rfl⟩) hS (fun q _ h => hFc q h) hFc (fun r_95 u t H1 locs ht hvm hw hB hz1 hk1 hS => ?_)
  obtain ⟨mi_96, ma_97, ⟨hf_98, hX1, hX2⟩, hP, hK1, hD1⟩ := hB
  have hE := bc_at hX1 hX2 hw.2 hE
  rw [ht] at hP
  have hD := hD1.weaken (fun k q _ h => hFc q.1 h)
  clear hD1
  generalize H1 = H at hP hS ⊢
  refine W.widen (k := 0) (n := 0) (Nat.le_refl _) (Nat.le_refl _) ?_
  have hI := hf_98.1
  have hFI : ∀ k, k ∉ ([29, 17, 18, 19] : List Nat) → mi_96 k = mi0 k := fun k hk => (hf_98.2.1 k (fun h => hk (by revert h; exact sub_of (by decide) k))).trans (hFI k hk)
  have hFA : ∀ k, k ∉ ([38, 39, 36, 34, 40, 37, 20, 21, 22, 23, 24, 25] : List Nat) → ma_97 k = ma0 k := fun k hk => (hf_98.2.2 k (fun h => hk (by revert h; exact sub_of (by decide) k))).trans (hFA k hk)
  have hr_95 := hw.1
  refine lv_if_ne (tgt := 32) hx hb dX11_receives_25 (by decide) (fun c_99 => ?_) (fun c_99 => ?_)
  · have t_c_99 := mt Int32.toInt_inj.mp c_99
    have hE := hE.trans (if_neg c_99)
    refine lv_iconst (v := 0) hx hb dX11_receives_32 (by decide) ?_
    refine lv_istore (lv' := [(4, .int 0), (0, .ref h0), (1, .int f), (2, .int g), (3, .int pb)]) hx hb dX11_receives_33 hl (by decide) rfl (fun ls hl => ?_)
    refine lv_iconst (v := 0) hx hb dX11_receives_35 (by decide) ?_
    refine lv_istore (lv' := [(5, .int 0), (4, .int 0), (0, .ref h0), (1, .int f), (2, .int g), (3, .int pb)]) hx hb dX11_receives_36 hl (by decide) rfl (fun ls hl => ?_)
    refine lv_iload_n hx hb dX11_receives_38 rfl (lv_at hl 4 rfl) ?_
    refine lv_aload_n hx hb dX11_receives_39 rfl (lv_at hl 2 rfl) ?_
    refine va_get (D := D) (ci := 11) (v := .ref (mq 34)) (C := RX11) (T := TX11) (N := 74) hx hb ha inlX11 hown hK hP 0 mw_at0 rfl 34 (by decide) (ha _ kf_X11_70) (fun _ h9 => h9) rfl dX11_receives_40 ?_
    refine lv_iload_n hx hb dX11_receives_43 rfl (lv_at hl 3 rfl) ?_
    have hin_100 : vp_in f 4 := vpi_of (by omega) (by omega)
    refine va_iald hx hb hK hP 16 0 mw_at34 rfl hin_100 dX11_receives_44 ?_
    refine lv_topi (fun x_101 ex_101 => ?_)
    have hE := bd_at ex_101 hE
    have u_x_101 := congrArg Int32.toInt ex_101
    have r_x_101 := rg_ld (MB_wanted hI) hin_100 ex_101
    refine lv_isub hx hb dX11_receives_45 ?_
    refine lv_topi (fun x_102 ex_102 => ?_)
    have hE := bd_at ex_102 hE
    try have t_x_102 := ti_sub ex_102 (by omega) (by omega)
    refine lv_istore (lv' := [(6, .int x_102), (5, .int 0), (4, .int 0), (0, .ref h0), (1, .int f), (2, .int g), (3, .int pb)]) hx hb dX11_receives_46 hl (by decide) rfl (fun ls hl => ?_)
    refine lv_iload hx hb dX11_receives_48 (lv_at hl 0 rfl) ?_
    refine lv_if_lt (tgt := 80) hx hb dX11_receives_50 (by decide) (fun c_103 => ?_) (fun c_103 => ?_)
    · have t_c_103 := Int32.lt_iff_toInt_lt.mp c_103
      have hE := hE.trans (if_pos c_103)
      refine lv_aload_n hx hb dX11_receives_80 rfl (lv_at hl 3 rfl) ?_
      refine va_get (D := D) (ci := 11) (v := .ref (mq 39)) (C := RX11) (T := TX11) (N := 74) hx hb ha inlX11 hown hK hP 0 mw_at0 rfl 39 (by decide) (ha _ kf_X11_85) (fun _ h9 => h9) rfl dX11_receives_81 ?_
      refine lv_iload_n hx hb dX11_receives_84 rfl (lv_at hl 4 rfl) ?_
      refine lv_dup2_11 hx hb dX11_receives_85 rfl rfl ?_
      have hin_104 : vp_in f 4 := vpi_of (by omega) (by omega)
      refine va_iald hx hb hK hP 21 0 mw_at39 rfl hin_104 dX11_receives_86 ?_
      refine lv_topi (fun x_105 ex_105 => ?_)
      have hE := bd_at ex_105 hE
      have u_x_105 := congrArg Int32.toInt ex_105
      refine lv_iconst (v := 1) hx hb dX11_receives_87 (by decide) ?_
      refine lv_iadd hx hb dX11_receives_88 ?_
      refine lv_topi (fun x_106 ex_106 => ?_)
      have hE := bd_at ex_106 hE
      try have t_x_106 := ti_add ex_106 (by omega) (by omega)
      have hin_107 : vp_in f 4 := vpi_of (by omega) (by omega)
      refine va_iast hx hb hK hP hD hS 21 0 mw_at39 rfl hin_107 dX11_receives_89 (fun H locs hP hD hS => ?_)
      have hP : va_P D vwCl (mw cI cZ h0 mq mi_96 (va_up ma_97 39 (upd (ma_97 39) f.toNatClampNeg x_106))) H := mwP_39 hP
      have hD : va_D A (mw cI cZ h0 mq mi_96 (va_up ma_97 39 (upd (ma_97 39) f.toNatClampNeg x_106))) := mwD_39 hD
      generalize hma_108 : va_up ma_97 39 (upd (ma_97 39) f.toNatClampNeg x_106) = ma_108 at hP hD
      have hI : MB mi_96 ma_108 := by rw [← hma_108]; exact MBa_notTaken hI
      have hFA : ∀ k, k ∉ ([38, 39, 36, 34, 40, 37, 20, 21, 22, 23, 24, 25] : List Nat) → ma_108 k = ma0 k := fun k hk => by rw [← hma_108]; exact (va_up_ne _ _ (fun e => hk (by rw [e]; decide))).trans (hFA k hk)
      have hE := bs_at hma_108 hE
      refine lv_goto (tgt := 215) hx hb dX11_receives_90 (by decide) ?_
      exact J_215 mi_96 ma_108 (0 : Int32) (0 : Int32) _ _ hP hD hS hI hFI hFA hE (da_keep hU (((hf_98.2.1 4 (by decide))).trans ((show mi_89 4 = mi 4 from (congrFun hmi_89 4).symm))) (((hf_98.2.1 10 (by decide))).trans ((show mi_89 10 = mi 10 from (congrFun hmi_89 10).symm))) (((hf_98.2.1 11 (by decide))).trans ((show mi_89 11 = mi 11 from (congrFun hmi_89 11).symm))) (((hf_98.2.1 17 (by decide))).trans ((show mi_89 17 = mi 17 from (congrFun hmi_89 17).symm))) (((hf_98.2.1 18 (by decide))).trans ((show mi_89 18 = mi 18 from (congrFun hmi_89 18).symm))) (((hf_98.2.1 19 (by decide))).trans ((show mi_89 19 = mi 19 from (congrFun hmi_89 19).symm))) (((mu_ne (k := 39) (j := 20) hma_108 (by decide))).trans (((hf_98.2.2 20 (by decide))).trans ((mu_ne (k := 38) (j := 20) hma_94 (by decide))))) (((mu_ne (k := 39) (j := 40) hma_108 (by decide))).trans (((hf_98.2.2 40 (by decide))).trans ((mu_ne (k := 38) (j := 40) hma_94 (by decide))))) (((mu_ne (k := 39) (j := 41) hma_108 (by decide))).trans (((hf_98.2.2 41 (by decide))).trans ((mu_ne (k := 38) (j := 41) hma_94 (by decide)))))) _ (lv_sub hl [3, 4, 5, 6, 2, 1] rfl)
    · have t_c_103 := Int32.le_iff_toInt_le.mp (Int32.not_lt.mp c_103)
      have hE := hE.trans (if_neg c_103)
      refine lv_iload hx hb dX11_receives_53 (lv_at hl 0 rfl) ?_
      refine lv_aload_n hx hb dX11_receives_55 rfl (lv_at hl 3 rfl) ?_
      refine va_get (D := D) (ci := 11) (v := .ref (mq 35)) (C := RX11) (T := TX11) (N := 74) hx hb ha inlX11 hown hK hP 0 mw_at0 rfl 35 (by decide) (ha _ kf_X11_73) (fun _ h9 => h9) rfl dX11_receives_56 ?_
      refine lv_iload_n hx hb dX11_receives_59 rfl (lv_at hl 4 rfl) ?_
      have hin_109 : vp_in f 4 := vpi_of (by omega) (by omega)
      refine va_iald hx hb hK hP 17 0 mw_at35 rfl hin_109 dX11_receives_60 ?_
      refine lv_topi (fun x_110 ex_110 => ?_)
      have hE := bd_at ex_110 hE
      have u_x_110 := congrArg Int32.toInt ex_110
      have r_x_110 := rg_ld (MB_window hI) hin_109 ex_110
      refine lv_icmp_ge (tgt := 80) hx hb dX11_receives_61 (by decide) (fun c_111 => ?_) (fun c_111 => ?_)
      · have t_c_111 := Int32.le_iff_toInt_le.mp c_111
        have hE := hE.trans (if_pos c_111)
        refine lv_aload_n hx hb dX11_receives_80 rfl (lv_at hl 3 rfl) ?_
        refine va_get (D := D) (ci := 11) (v := .ref (mq 39)) (C := RX11) (T := TX11) (N := 74) hx hb ha inlX11 hown hK hP 0 mw_at0 rfl 39 (by decide) (ha _ kf_X11_85) (fun _ h9 => h9) rfl dX11_receives_81 ?_
        refine lv_iload_n hx hb dX11_receives_84 rfl (lv_at hl 4 rfl) ?_
        refine lv_dup2_11 hx hb dX11_receives_85 rfl rfl ?_
        have hin_112 : vp_in f 4 := vpi_of (by omega) (by omega)
        refine va_iald hx hb hK hP 21 0 mw_at39 rfl hin_112 dX11_receives_86 ?_
        refine lv_topi (fun x_113 ex_113 => ?_)
        have hE := bd_at ex_113 hE
        have u_x_113 := congrArg Int32.toInt ex_113
        refine lv_iconst (v := 1) hx hb dX11_receives_87 (by decide) ?_
        refine lv_iadd hx hb dX11_receives_88 ?_
        refine lv_topi (fun x_114 ex_114 => ?_)
        have hE := bd_at ex_114 hE
        try have t_x_114 := ti_add ex_114 (by omega) (by omega)
        have hin_115 : vp_in f 4 := vpi_of (by omega) (by omega)
        refine va_iast hx hb hK hP hD hS 21 0 mw_at39 rfl hin_115 dX11_receives_89 (fun H locs hP hD hS => ?_)
        have hP : va_P D vwCl (mw cI cZ h0 mq mi_96 (va_up ma_97 39 (upd (ma_97 39) f.toNatClampNeg x_114))) H := mwP_39 hP
        have hD : va_D A (mw cI cZ h0 mq mi_96 (va_up ma_97 39 (upd (ma_97 39) f.toNatClampNeg x_114))) := mwD_39 hD
        generalize hma_116 : va_up ma_97 39 (upd (ma_97 39) f.toNatClampNeg x_114) = ma_116 at hP hD
        have hI : MB mi_96 ma_116 := by rw [← hma_116]; exact MBa_notTaken hI
        have hFA : ∀ k, k ∉ ([38, 39, 36, 34, 40, 37, 20, 21, 22, 23, 24, 25] : List Nat) → ma_116 k = ma0 k := fun k hk => by rw [← hma_116]; exact (va_up_ne _ _ (fun e => hk (by rw [e]; decide))).trans (hFA k hk)
        have hE := bs_at hma_116 hE
        refine lv_goto (tgt := 215) hx hb dX11_receives_90 (by decide) ?_
        exact J_215 mi_96 ma_116 (0 : Int32) (0 : Int32) _ _ hP hD hS hI hFI hFA hE (da_keep hU (((hf_98.2.1 4 (by decide))).trans ((show mi_89 4 = mi 4 from (congrFun hmi_89 4).symm))) (((hf_98.2.1 10 (by decide))).trans ((show mi_89 10 = mi 10 from (congrFun hmi_89 10).symm))) (((hf_98.2.1 11 (by decide))).trans ((show mi_89 11 = mi 11 from (congrFun hmi_89 11).symm))) (((hf_98.2.1 17 (by decide))).trans ((show mi_89 17 = mi 17 from (congrFun hmi_89 17).symm))) (((hf_98.2.1 18 (by decide))).trans ((show mi_89 18 = mi 18 from (congrFun hmi_89 18).symm))) (((hf_98.2.1 19 (by decide))).trans ((show mi_89 19 = mi 19 from (congrFun hmi_89 19).symm))) (((mu_ne (k := 39) (j := 20) hma_116 (by decide))).trans (((hf_98.2.2 20 (by decide))).trans ((mu_ne (k := 38) (j := 20) hma_94 (by decide))))) (((mu_ne (k := 39) (j := 40) hma_116 (by decide))).trans (((hf_98.2.2 40 (by decide))).trans ((mu_ne (k := 38) (j := 40) hma_94 (by decide))))) (((mu_ne (k := 39) (j := 41) hma_116 (by decide))).trans (((hf_98.2.2 41 (by decide))).trans ((mu_ne (k := 38) (j := 41) hma_94 (by decide)))))) _ (lv_sub hl [3, 4, 5, 6, 2, 1] rfl)
      · have t_c_111 := Int32.lt_iff_toInt_lt.mp (Int32.not_le.mp c_111)
        have hE := hE.trans (if_neg c_111)
        refine lv_aload_n hx hb dX11_receives_64 rfl (lv_at hl 3 rfl) ?_
        refine va_get (D := D) (ci := 11) (v := .ref (mq 36)) (C := RX11) (T := TX11) (N := 74) hx hb ha inlX11 hown hK hP 0 mw_at0 rfl 36 (by decide) (ha _ kf_X11_76) (fun _ h9 => h9) rfl dX11_receives_65 ?_
        refine lv_sipush (v := 200) hx hb dX11_receives_68 (by decide) ?_
        refine lv_iload_n hx hb dX11_receives_71 rfl (lv_at hl 4 rfl) ?_
        refine lv_imul hx hb dX11_receives_72 ?_
        refine lv_topi (fun x_117 ex_117 => ?_)
        have hE := bd_at ex_117 hE
        try have t_x_117 := ti_mulc (k := 200) ex_117 tk_200 (by omega) (by omega)
        refine lv_iload hx hb dX11_receives_73 (lv_at hl 0 rfl) ?_
        refine lv_iadd hx hb dX11_receives_75 ?_
        refine lv_topi (fun x_118 ex_118 => ?_)
        have hE := bd_at ex_118 hE
        try have t_x_118 := ti_add ex_118 (by omega) (by omega)
        have hin_119 : vp_in x_118 800 := vpi_of (by omega) (by omega)
        refine va_zald hx hb hK hP 18 2 mw_at36 rfl hin_119 dX11_receives_76 ?_
        refine lv_topi (fun x_120 ex_120 => ?_)
        have hE := bd_at ex_120 hE
        have u_x_120 := congrArg Int32.toInt ex_120
        refine lv_if_eq (tgt := 93) hx hb dX11_receives_77 (by decide) (fun c_121 => ?_) (fun c_121 => ?_)
        · have t_c_121 := congrArg Int32.toInt c_121
          have hE := hE.trans (if_pos c_121)
          refine lv_iload hx hb dX11_receives_93 (lv_at hl 0 rfl) ?_
          refine lv_if_le (tgt := 115) hx hb dX11_receives_95 (by decide) (fun c_122 => ?_) (fun c_122 => ?_)
          · have t_c_122 := Int32.le_iff_toInt_le.mp c_122
            have hE := hE.trans (if_pos c_122)
            refine lv_iconst (v := 1) hx hb dX11_receives_115 (by decide) ?_
            refine lv_istore (lv' := [(5, .int 1), (6, .int x_102), (4, .int 0), (0, .ref h0), (1, .int f), (2, .int g), (3, .int pb)]) hx hb dX11_receives_116 hl (by decide) rfl (fun ls hl => ?_)
            refine lv_aload_n hx hb dX11_receives_118 rfl (lv_at hl 3 rfl) ?_
            refine va_get (D := D) (ci := 11) (v := .ref (mq 36)) (C := RX11) (T := TX11) (N := 74) hx hb ha inlX11 hown hK hP 0 mw_at0 rfl 36 (by decide) (ha _ kf_X11_76) (fun _ h9 => h9) rfl dX11_receives_119 ?_
            refine lv_sipush (v := 200) hx hb dX11_receives_122 (by decide) ?_
            refine lv_iload_n hx hb dX11_receives_125 rfl (lv_at hl 4 rfl) ?_
            refine lv_imul hx hb dX11_receives_126 ?_
            refine lv_topi (fun x_123 ex_123 => ?_)
            have hE := bd_at ex_123 hE
            try have t_x_123 := ti_mulc (k := 200) ex_123 tk_200 (by omega) (by omega)
            refine lv_iconst (v := 1) hx hb dX11_receives_127 (by decide) ?_
            have hin_124 : vp_in x_123 800 := vpi_of (by omega) (by omega)
            refine va_zast hx hb hK hP hD hS 18 2 mw_at36 rfl hin_124 dX11_receives_128 (fun H locs hP hD hS => ?_)
            have hP : va_P D vwCl (mw cI cZ h0 mq mi_96 (va_up ma_97 36 (upd (ma_97 36) x_123.toNatClampNeg (vp_nar .boolean (1 : Int32))))) H := mwP_36 hP
            have hD : va_D A (mw cI cZ h0 mq mi_96 (va_up ma_97 36 (upd (ma_97 36) x_123.toNatClampNeg (vp_nar .boolean (1 : Int32))))) := mwD_36 hD
            generalize hma_125 : va_up ma_97 36 (upd (ma_97 36) x_123.toNatClampNeg (vp_nar .boolean (1 : Int32))) = ma_125 at hP hD
            have hI : MB mi_96 ma_125 := by rw [← hma_125]; exact MBa_kp hI (f := f.toNatClampNeg) (j := 0) (by have c1 := cl_toInt (i := x_123) (by omega); have c2 := cl_toInt hf0; omega) (by omega) (fun _ => by omega)
            have hFA : ∀ k, k ∉ ([38, 39, 36, 34, 40, 37, 20, 21, 22, 23, 24, 25] : List Nat) → ma_125 k = ma0 k := fun k hk => by rw [← hma_125]; exact (va_up_ne _ _ (fun e => hk (by rw [e]; decide))).trans (hFA k hk)
            have hE := bs_at hma_125 hE
            have w9 := MB_wanted hI f.toNatClampNeg hfN
            exact (JG_r 1000003000).1 mi_96 ma_125 (0 : Int32) _ _ hP hD hS hI hFI hFA hE (da_keep hU (((hf_98.2.1 4 (by decide))).trans ((show mi_89 4 = mi 4 from (congrFun hmi_89 4).symm))) (((hf_98.2.1 10 (by decide))).trans ((show mi_89 10 = mi 10 from (congrFun hmi_89 10).symm))) (((hf_98.2.1 11 (by decide))).trans ((show mi_89 11 = mi 11 from (congrFun hmi_89 11).symm))) (((hf_98.2.1 17 (by decide))).trans ((show mi_89 17 = mi 17 from (congrFun hmi_89 17).symm))) (((hf_98.2.1 18 (by decide))).trans ((show mi_89 18 = mi 18 from (congrFun hmi_89 18).symm))) (((hf_98.2.1 19 (by decide))).trans ((show mi_89 19 = mi 19 from (congrFun hmi_89 19).symm))) (((mu_ne (k := 36) (j := 20) hma_125 (by decide))).trans (((hf_98.2.2 20 (by decide))).trans ((mu_ne (k := 38) (j := 20) hma_94 (by decide))))) (((mu_ne (k := 36) (j := 40) hma_125 (by decide))).trans (((hf_98.2.2 40 (by decide))).trans ((mu_ne (k := 38) (j := 40) hma_94 (by decide))))) (((mu_ne (k := 36) (j := 41) hma_125 (by decide))).trans (((hf_98.2.2 41 (by decide))).trans ((mu_ne (k := 38) (j := 41) hma_94 (by decide)))))) _ (lv_sub hl [3, 4, 5, 6, 2, 0] rfl) (by omega)
          · have t_c_122 := Int32.lt_iff_toInt_lt.mp (Int32.not_le.mp c_122)
            have hE := hE.trans (if_neg c_122)
            refine lv_aload_n hx hb dX11_receives_98 rfl (lv_at hl 3 rfl) ?_
            refine va_get (D := D) (ci := 11) (v := .ref (mq 36)) (C := RX11) (T := TX11) (N := 74) hx hb ha inlX11 hown hK hP 0 mw_at0 rfl 36 (by decide) (ha _ kf_X11_76) (fun _ h9 => h9) rfl dX11_receives_99 ?_
            refine lv_sipush (v := 200) hx hb dX11_receives_102 (by decide) ?_
            refine lv_iload_n hx hb dX11_receives_105 rfl (lv_at hl 4 rfl) ?_
            refine lv_imul hx hb dX11_receives_106 ?_
            refine lv_topi (fun x_126 ex_126 => ?_)
            have hE := bd_at ex_126 hE
            try have t_x_126 := ti_mulc (k := 200) ex_126 tk_200 (by omega) (by omega)
            refine lv_iload hx hb dX11_receives_107 (lv_at hl 0 rfl) ?_
            refine lv_iadd hx hb dX11_receives_109 ?_
            refine lv_topi (fun x_127 ex_127 => ?_)
            have hE := bd_at ex_127 hE
            try have t_x_127 := ti_add ex_127 (by omega) (by omega)
            refine lv_iconst (v := 1) hx hb dX11_receives_110 (by decide) ?_
            have hin_128 : vp_in x_127 800 := vpi_of (by omega) (by omega)
            refine va_zast hx hb hK hP hD hS 18 2 mw_at36 rfl hin_128 dX11_receives_111 (fun H locs hP hD hS => ?_)
            have hP : va_P D vwCl (mw cI cZ h0 mq mi_96 (va_up ma_97 36 (upd (ma_97 36) x_127.toNatClampNeg (vp_nar .boolean (1 : Int32))))) H := mwP_36 hP
            have hD : va_D A (mw cI cZ h0 mq mi_96 (va_up ma_97 36 (upd (ma_97 36) x_127.toNatClampNeg (vp_nar .boolean (1 : Int32))))) := mwD_36 hD
            generalize hma_129 : va_up ma_97 36 (upd (ma_97 36) x_127.toNatClampNeg (vp_nar .boolean (1 : Int32))) = ma_129 at hP hD
            have hI : MB mi_96 ma_129 := by rw [← hma_129]; exact MBa_kp hI (f := f.toNatClampNeg) (j := x_102.toNatClampNeg) (by have c1 := cl_toInt (i := x_127) (by omega); have c2 := cl_toInt hf0; have c3 := cl_toInt (i := x_102) (by omega); omega) (by have c3 := cl_toInt (i := x_102) (by omega); omega) (fun _ => by have c3 := cl_toInt (i := x_102) (by omega); omega)
            have hFA : ∀ k, k ∉ ([38, 39, 36, 34, 40, 37, 20, 21, 22, 23, 24, 25] : List Nat) → ma_129 k = ma0 k := fun k hk => by rw [← hma_129]; exact (va_up_ne _ _ (fun e => hk (by rw [e]; decide))).trans (hFA k hk)
            have hE := bs_at hma_129 hE
            refine lv_goto (tgt := 215) hx hb dX11_receives_112 (by decide) ?_
            exact J_215 mi_96 ma_129 (0 : Int32) (0 : Int32) _ _ hP hD hS hI hFI hFA hE (da_keep hU (((hf_98.2.1 4 (by decide))).trans ((show mi_89 4 = mi 4 from (congrFun hmi_89 4).symm))) (((hf_98.2.1 10 (by decide))).trans ((show mi_89 10 = mi 10 from (congrFun hmi_89 10).symm))) (((hf_98.2.1 11 (by decide))).trans ((show mi_89 11 = mi 11 from (congrFun hmi_89 11).symm))) (((hf_98.2.1 17 (by decide))).trans ((show mi_89 17 = mi 17 from (congrFun hmi_89 17).symm))) (((hf_98.2.1 18 (by decide))).trans ((show mi_89 18 = mi 18 from (congrFun hmi_89 18).symm))) (((hf_98.2.1 19 (by decide))).trans ((show mi_89 19 = mi 19 from (congrFun hmi_89 19).symm))) (((mu_ne (k := 36) (j := 20) hma_129 (by decide))).trans (((hf_98.2.2 20 (by decide))).trans ((mu_ne (k := 38) (j := 20) hma_94 (by decide))))) (((mu_ne (k := 36) (j := 40) hma_129 (by decide))).trans (((hf_98.2.2 40 (by decide))).trans ((mu_ne (k := 38) (j := 40) hma_94 (by decide))))) (((mu_ne (k := 36) (j := 41) hma_129 (by decide))).trans (((hf_98.2.2 41 (by decide))).trans ((mu_ne (k := 38) (j := 41) hma_94 (by decide)))))) _ (lv_sub hl [3, 4, 5, 6, 2, 1] rfl)
        · have t_c_121 := mt Int32.toInt_inj.mp c_121
          have hE := hE.trans (if_neg c_121)
          refine lv_aload_n hx hb dX11_receives_80 rfl (lv_at hl 3 rfl) ?_
          refine va_get (D := D) (ci := 11) (v := .ref (mq 39)) (C := RX11) (T := TX11) (N := 74) hx hb ha inlX11 hown hK hP 0 mw_at0 rfl 39 (by decide) (ha _ kf_X11_85) (fun _ h9 => h9) rfl dX11_receives_81 ?_
          refine lv_iload_n hx hb dX11_receives_84 rfl (lv_at hl 4 rfl) ?_
          refine lv_dup2_11 hx hb dX11_receives_85 rfl rfl ?_
          have hin_130 : vp_in f 4 := vpi_of (by omega) (by omega)
          refine va_iald hx hb hK hP 21 0 mw_at39 rfl hin_130 dX11_receives_86 ?_
          refine lv_topi (fun x_131 ex_131 => ?_)
          have hE := bd_at ex_131 hE
          have u_x_131 := congrArg Int32.toInt ex_131
          refine lv_iconst (v := 1) hx hb dX11_receives_87 (by decide) ?_
          refine lv_iadd hx hb dX11_receives_88 ?_
          refine lv_topi (fun x_132 ex_132 => ?_)
          have hE := bd_at ex_132 hE
          try have t_x_132 := ti_add ex_132 (by omega) (by omega)
          have hin_133 : vp_in f 4 := vpi_of (by omega) (by omega)
          refine va_iast hx hb hK hP hD hS 21 0 mw_at39 rfl hin_133 dX11_receives_89 (fun H locs hP hD hS => ?_)
          have hP : va_P D vwCl (mw cI cZ h0 mq mi_96 (va_up ma_97 39 (upd (ma_97 39) f.toNatClampNeg x_132))) H := mwP_39 hP
          have hD : va_D A (mw cI cZ h0 mq mi_96 (va_up ma_97 39 (upd (ma_97 39) f.toNatClampNeg x_132))) := mwD_39 hD
          generalize hma_134 : va_up ma_97 39 (upd (ma_97 39) f.toNatClampNeg x_132) = ma_134 at hP hD
          have hI : MB mi_96 ma_134 := by rw [← hma_134]; exact MBa_notTaken hI
          have hFA : ∀ k, k ∉ ([38, 39, 36, 34, 40, 37, 20, 21, 22, 23, 24, 25] : List Nat) → ma_134 k = ma0 k := fun k hk => by rw [← hma_134]; exact (va_up_ne _ _ (fun e => hk (by rw [e]; decide))).trans (hFA k hk)
          have hE := bs_at hma_134 hE
          refine lv_goto (tgt := 215) hx hb dX11_receives_90 (by decide) ?_
          exact J_215 mi_96 ma_134 (0 : Int32) (0 : Int32) _ _ hP hD hS hI hFI hFA hE (da_keep hU (((hf_98.2.1 4 (by decide))).trans ((show mi_89 4 = mi 4 from (congrFun hmi_89 4).symm))) (((hf_98.2.1 10 (by decide))).trans ((show mi_89 10 = mi 10 from (congrFun hmi_89 10).symm))) (((hf_98.2.1 11 (by decide))).trans ((show mi_89 11 = mi 11 from (congrFun hmi_89 11).symm))) (((hf_98.2.1 17 (by decide))).trans ((show mi_89 17 = mi 17 from (congrFun hmi_89 17).symm))) (((hf_98.2.1 18 (by decide))).trans ((show mi_89 18 = mi 18 from (congrFun hmi_89 18).symm))) (((hf_98.2.1 19 (by decide))).trans ((show mi_89 19 = mi 19 from (congrFun hmi_89 19).symm))) (((mu_ne (k := 39) (j := 20) hma_134 (by decide))).trans (((hf_98.2.2 20 (by decide))).trans ((mu_ne (k := 38) (j := 20) hma_94 (by decide))))) (((mu_ne (k := 39) (j := 40) hma_134 (by decide))).trans (((hf_98.2.2 40 (by decide))).trans ((mu_ne (k := 38) (j := 40) hma_94 (by decide))))) (((mu_ne (k := 39) (j := 41) hma_134 (by decide))).trans (((hf_98.2.2 41 (by decide))).trans ((mu_ne (k := 38) (j := 41) hma_94 (by decide)))))) _ (lv_sub hl [3, 4, 5, 6, 2, 1] rfl)
  · have t_c_99 := congrArg Int32.toInt c_99
    have hE := hE.trans (if_pos c_99)
    refine lv_iconst (v := 1) hx hb dX11_receives_28 (by decide) ?_
    refine lv_goto (tgt := 33) hx hb dX11_receives_29 (by decide) ?_
    refine lv_istore (lv' := [(4, .int 1), (0, .ref h0), (1, .int f), (2, .int g), (3, .int pb)]) hx hb dX11_receives_33 hl (by decide) rfl (fun ls hl => ?_)
    refine lv_iconst (v := 0) hx hb dX11_receives_35 (by decide) ?_
    refine lv_istore (lv' := [(5, .int 0), (4, .int 1), (0, .ref h0), (1, .int f), (2, .int g), (3, .int pb)]) hx hb dX11_receives_36 hl (by decide) rfl (fun ls hl => ?_)
    refine lv_iload_n hx hb dX11_receives_38 rfl (lv_at hl 4 rfl) ?_
    refine lv_aload_n hx hb dX11_receives_39 rfl (lv_at hl 2 rfl) ?_
    refine va_get (D := D) (ci := 11) (v := .ref (mq 34)) (C := RX11) (T := TX11) (N := 74) hx hb ha inlX11 hown hK hP 0 mw_at0 rfl 34 (by decide) (ha _ kf_X11_70) (fun _ h9 => h9) rfl dX11_receives_40 ?_
    refine lv_iload_n hx hb dX11_receives_43 rfl (lv_at hl 3 rfl) ?_
    have hin_135 : vp_in f 4 := vpi_of (by omega) (by omega)
    refine va_iald hx hb hK hP 16 0 mw_at34 rfl hin_135 dX11_receives_44 ?_
    refine lv_topi (fun x_136 ex_136 => ?_)
    have hE := bd_at ex_136 hE
    have u_x_136 := congrArg Int32.toInt ex_136
    have r_x_136 := rg_ld (MB_wanted hI) hin_135 ex_136
    refine lv_isub hx hb dX11_receives_45 ?_
    refine lv_topi (fun x_137 ex_137 => ?_)
    have hE := bd_at ex_137 hE
    try have t_x_137 := ti_sub ex_137 (by omega) (by omega)
    refine lv_istore (lv' := [(6, .int x_137), (5, .int 0), (4, .int 1), (0, .ref h0), (1, .int f), (2, .int g), (3, .int pb)]) hx hb dX11_receives_46 hl (by decide) rfl (fun ls hl => ?_)
    refine lv_iload hx hb dX11_receives_48 (lv_at hl 0 rfl) ?_
    refine lv_if_lt (tgt := 80) hx hb dX11_receives_50 (by decide) (fun c_138 => ?_) (fun c_138 => ?_)
    · have t_c_138 := Int32.lt_iff_toInt_lt.mp c_138
      have hE := hE.trans (if_pos c_138)
      refine lv_aload_n hx hb dX11_receives_80 rfl (lv_at hl 3 rfl) ?_
      refine va_get (D := D) (ci := 11) (v := .ref (mq 39)) (C := RX11) (T := TX11) (N := 74) hx hb ha inlX11 hown hK hP 0 mw_at0 rfl 39 (by decide) (ha _ kf_X11_85) (fun _ h9 => h9) rfl dX11_receives_81 ?_
      refine lv_iload_n hx hb dX11_receives_84 rfl (lv_at hl 4 rfl) ?_
      refine lv_dup2_11 hx hb dX11_receives_85 rfl rfl ?_
      have hin_139 : vp_in f 4 := vpi_of (by omega) (by omega)
      refine va_iald hx hb hK hP 21 0 mw_at39 rfl hin_139 dX11_receives_86 ?_
      refine lv_topi (fun x_140 ex_140 => ?_)
      have hE := bd_at ex_140 hE
      have u_x_140 := congrArg Int32.toInt ex_140
      refine lv_iconst (v := 1) hx hb dX11_receives_87 (by decide) ?_
      refine lv_iadd hx hb dX11_receives_88 ?_
      refine lv_topi (fun x_141 ex_141 => ?_)
      have hE := bd_at ex_141 hE
      try have t_x_141 := ti_add ex_141 (by omega) (by omega)
      have hin_142 : vp_in f 4 := vpi_of (by omega) (by omega)
      refine va_iast hx hb hK hP hD hS 21 0 mw_at39 rfl hin_142 dX11_receives_89 (fun H locs hP hD hS => ?_)
      have hP : va_P D vwCl (mw cI cZ h0 mq mi_96 (va_up ma_97 39 (upd (ma_97 39) f.toNatClampNeg x_141))) H := mwP_39 hP
      have hD : va_D A (mw cI cZ h0 mq mi_96 (va_up ma_97 39 (upd (ma_97 39) f.toNatClampNeg x_141))) := mwD_39 hD
      generalize hma_143 : va_up ma_97 39 (upd (ma_97 39) f.toNatClampNeg x_141) = ma_143 at hP hD
      have hI : MB mi_96 ma_143 := by rw [← hma_143]; exact MBa_notTaken hI
      have hFA : ∀ k, k ∉ ([38, 39, 36, 34, 40, 37, 20, 21, 22, 23, 24, 25] : List Nat) → ma_143 k = ma0 k := fun k hk => by rw [← hma_143]; exact (va_up_ne _ _ (fun e => hk (by rw [e]; decide))).trans (hFA k hk)
      have hE := bs_at hma_143 hE
      refine lv_goto (tgt := 215) hx hb dX11_receives_90 (by decide) ?_
      exact J_215 mi_96 ma_143 (1 : Int32) (0 : Int32) _ _ hP hD hS hI hFI hFA hE (da_keep hU (((hf_98.2.1 4 (by decide))).trans ((show mi_89 4 = mi 4 from (congrFun hmi_89 4).symm))) (((hf_98.2.1 10 (by decide))).trans ((show mi_89 10 = mi 10 from (congrFun hmi_89 10).symm))) (((hf_98.2.1 11 (by decide))).trans ((show mi_89 11 = mi 11 from (congrFun hmi_89 11).symm))) (((hf_98.2.1 17 (by decide))).trans ((show mi_89 17 = mi 17 from (congrFun hmi_89 17).symm))) (((hf_98.2.1 18 (by decide))).trans ((show mi_89 18 = mi 18 from (congrFun hmi_89 18).symm))) (((hf_98.2.1 19 (by decide))).trans ((show mi_89 19 = mi 19 from (congrFun hmi_89 19).symm))) (((mu_ne (k := 39) (j := 20) hma_143 (by decide))).trans (((hf_98.2.2 20 (by decide))).trans ((mu_ne (k := 38) (j := 20) hma_94 (by decide))))) (((mu_ne (k := 39) (j := 40) hma_143 (by decide))).trans (((hf_98.2.2 40 (by decide))).trans ((mu_ne (k := 38) (j := 40) hma_94 (by decide))))) (((mu_ne (k := 39) (j := 41) hma_143 (by decide))).trans (((hf_98.2.2 41 (by decide))).trans ((mu_ne (k := 38) (j := 41) hma_94 (by decide)))))) _ (lv_sub hl [3, 4, 5, 6, 2, 1] rfl)
    · have t_c_138 := Int32.le_iff_toInt_le.mp (Int32.not_lt.mp c_138)
      have hE := hE.trans (if_neg c_138)
      refine lv_iload hx hb dX11_receives_53 (lv_at hl 0 rfl) ?_
      refine lv_aload_n hx hb dX11_receives_55 rfl (lv_at hl 3 rfl) ?_
      refine va_get (D := D) (ci := 11) (v := .ref (mq 35)) (C := RX11) (T := TX11) (N := 74) hx hb ha inlX11 hown hK hP 0 mw_at0 rfl 35 (by decide) (ha _ kf_X11_73) (fun _ h9 => h9) rfl dX11_receives_56 ?_
      refine lv_iload_n hx hb dX11_receives_59 rfl (lv_at hl 4 rfl) ?_
      have hin_144 : vp_in f 4 := vpi_of (by omega) (by omega)
      refine va_iald hx hb hK hP 17 0 mw_at35 rfl hin_144 dX11_receives_60 ?_
      refine lv_topi (fun x_145 ex_145 => ?_)
      have hE := bd_at ex_145 hE
      have u_x_145 := congrArg Int32.toInt ex_145
      have r_x_145 := rg_ld (MB_window hI) hin_144 ex_145
      refine lv_icmp_ge (tgt := 80) hx hb dX11_receives_61 (by decide) (fun c_146 => ?_) (fun c_146 => ?_)
      · have t_c_146 := Int32.le_iff_toInt_le.mp c_146
        have hE := hE.trans (if_pos c_146)
        refine lv_aload_n hx hb dX11_receives_80 rfl (lv_at hl 3 rfl) ?_
        refine va_get (D := D) (ci := 11) (v := .ref (mq 39)) (C := RX11) (T := TX11) (N := 74) hx hb ha inlX11 hown hK hP 0 mw_at0 rfl 39 (by decide) (ha _ kf_X11_85) (fun _ h9 => h9) rfl dX11_receives_81 ?_
        refine lv_iload_n hx hb dX11_receives_84 rfl (lv_at hl 4 rfl) ?_
        refine lv_dup2_11 hx hb dX11_receives_85 rfl rfl ?_
        have hin_147 : vp_in f 4 := vpi_of (by omega) (by omega)
        refine va_iald hx hb hK hP 21 0 mw_at39 rfl hin_147 dX11_receives_86 ?_
        refine lv_topi (fun x_148 ex_148 => ?_)
        have hE := bd_at ex_148 hE
        have u_x_148 := congrArg Int32.toInt ex_148
        refine lv_iconst (v := 1) hx hb dX11_receives_87 (by decide) ?_
        refine lv_iadd hx hb dX11_receives_88 ?_
        refine lv_topi (fun x_149 ex_149 => ?_)
        have hE := bd_at ex_149 hE
        try have t_x_149 := ti_add ex_149 (by omega) (by omega)
        have hin_150 : vp_in f 4 := vpi_of (by omega) (by omega)
        refine va_iast hx hb hK hP hD hS 21 0 mw_at39 rfl hin_150 dX11_receives_89 (fun H locs hP hD hS => ?_)
        have hP : va_P D vwCl (mw cI cZ h0 mq mi_96 (va_up ma_97 39 (upd (ma_97 39) f.toNatClampNeg x_149))) H := mwP_39 hP
        have hD : va_D A (mw cI cZ h0 mq mi_96 (va_up ma_97 39 (upd (ma_97 39) f.toNatClampNeg x_149))) := mwD_39 hD
        generalize hma_151 : va_up ma_97 39 (upd (ma_97 39) f.toNatClampNeg x_149) = ma_151 at hP hD
        have hI : MB mi_96 ma_151 := by rw [← hma_151]; exact MBa_notTaken hI
        have hFA : ∀ k, k ∉ ([38, 39, 36, 34, 40, 37, 20, 21, 22, 23, 24, 25] : List Nat) → ma_151 k = ma0 k := fun k hk => by rw [← hma_151]; exact (va_up_ne _ _ (fun e => hk (by rw [e]; decide))).trans (hFA k hk)
        have hE := bs_at hma_151 hE
        refine lv_goto (tgt := 215) hx hb dX11_receives_90 (by decide) ?_
        exact J_215 mi_96 ma_151 (1 : Int32) (0 : Int32) _ _ hP hD hS hI hFI hFA hE (da_keep hU (((hf_98.2.1 4 (by decide))).trans ((show mi_89 4 = mi 4 from (congrFun hmi_89 4).symm))) (((hf_98.2.1 10 (by decide))).trans ((show mi_89 10 = mi 10 from (congrFun hmi_89 10).symm))) (((hf_98.2.1 11 (by decide))).trans ((show mi_89 11 = mi 11 from (congrFun hmi_89 11).symm))) (((hf_98.2.1 17 (by decide))).trans ((show mi_89 17 = mi 17 from (congrFun hmi_89 17).symm))) (((hf_98.2.1 18 (by decide))).trans ((show mi_89 18 = mi 18 from (congrFun hmi_89 18).symm))) (((hf_98.2.1 19 (by decide))).trans ((show mi_89 19 = mi 19 from (congrFun hmi_89 19).symm))) (((mu_ne (k := 39) (j := 20) hma_151 (by decide))).trans (((hf_98.2.2 20 (by decide))).trans ((mu_ne (k := 38) (j := 20) hma_94 (by decide))))) (((mu_ne (k := 39) (j := 40) hma_151 (by decide))).trans (((hf_98.2.2 40 (by decide))).trans ((mu_ne (k := 38) (j := 40) hma_94 (by decide))))) (((mu_ne (k := 39) (j := 41) hma_151 (by decide))).trans (((hf_98.2.2 41 (by decide))).trans ((mu_ne (k := 38) (j := 41) hma_94 (by decide)))))) _ (lv_sub hl [3, 4, 5, 6, 2, 1] rfl)
      · have t_c_146 := Int32.lt_iff_toInt_lt.mp (Int32.not_le.mp c_146)
        have hE := hE.trans (if_neg c_146)
        refine lv_aload_n hx hb dX11_receives_64 rfl (lv_at hl 3 rfl) ?_
        refine va_get (D := D) (ci := 11) (v := .ref (mq 36)) (C := RX11) (T := TX11) (N := 74) hx hb ha inlX11 hown hK hP 0 mw_at0 rfl 36 (by decide) (ha _ kf_X11_76) (fun _ h9 => h9) rfl dX11_receives_65 ?_
        refine lv_sipush (v := 200) hx hb dX11_receives_68 (by decide) ?_
        refine lv_iload_n hx hb dX11_receives_71 rfl (lv_at hl 4 rfl) ?_
        refine lv_imul hx hb dX11_receives_72 ?_
        refine lv_topi (fun x_152 ex_152 => ?_)
        have hE := bd_at ex_152 hE
        try have t_x_152 := ti_mulc (k := 200) ex_152 tk_200 (by omega) (by omega)
        refine lv_iload hx hb dX11_receives_73 (lv_at hl 0 rfl) ?_
        refine lv_iadd hx hb dX11_receives_75 ?_
        refine lv_topi (fun x_153 ex_153 => ?_)
        have hE := bd_at ex_153 hE
        try have t_x_153 := ti_add ex_153 (by omega) (by omega)
        have hin_154 : vp_in x_153 800 := vpi_of (by omega) (by omega)
        refine va_zald hx hb hK hP 18 2 mw_at36 rfl hin_154 dX11_receives_76 ?_
        refine lv_topi (fun x_155 ex_155 => ?_)
        have hE := bd_at ex_155 hE
        have u_x_155 := congrArg Int32.toInt ex_155
        refine lv_if_eq (tgt := 93) hx hb dX11_receives_77 (by decide) (fun c_156 => ?_) (fun c_156 => ?_)
        · have t_c_156 := congrArg Int32.toInt c_156
          have hE := hE.trans (if_pos c_156)
          refine lv_iload hx hb dX11_receives_93 (lv_at hl 0 rfl) ?_
          refine lv_if_le (tgt := 115) hx hb dX11_receives_95 (by decide) (fun c_157 => ?_) (fun c_157 => ?_)
          · have t_c_157 := Int32.le_iff_toInt_le.mp c_157
            have hE := hE.trans (if_pos c_157)
            refine lv_iconst (v := 1) hx hb dX11_receives_115 (by decide) ?_
            refine lv_istore (lv' := [(5, .int 1), (6, .int x_137), (4, .int 1), (0, .ref h0), (1, .int f), (2, .int g), (3, .int pb)]) hx hb dX11_receives_116 hl (by decide) rfl (fun ls hl => ?_)
            refine lv_aload_n hx hb dX11_receives_118 rfl (lv_at hl 3 rfl) ?_
            refine va_get (D := D) (ci := 11) (v := .ref (mq 36)) (C := RX11) (T := TX11) (N := 74) hx hb ha inlX11 hown hK hP 0 mw_at0 rfl 36 (by decide) (ha _ kf_X11_76) (fun _ h9 => h9) rfl dX11_receives_119 ?_
            refine lv_sipush (v := 200) hx hb dX11_receives_122 (by decide) ?_
            refine lv_iload_n hx hb dX11_receives_125 rfl (lv_at hl 4 rfl) ?_
            refine lv_imul hx hb dX11_receives_126 ?_
            refine lv_topi (fun x_158 ex_158 => ?_)
            have hE := bd_at ex_158 hE
            try have t_x_158 := ti_mulc (k := 200) ex_158 tk_200 (by omega) (by omega)
            refine lv_iconst (v := 1) hx hb dX11_receives_127 (by decide) ?_
            have hin_159 : vp_in x_158 800 := vpi_of (by omega) (by omega)
            refine va_zast hx hb hK hP hD hS 18 2 mw_at36 rfl hin_159 dX11_receives_128 (fun H locs hP hD hS => ?_)
            have hP : va_P D vwCl (mw cI cZ h0 mq mi_96 (va_up ma_97 36 (upd (ma_97 36) x_158.toNatClampNeg (vp_nar .boolean (1 : Int32))))) H := mwP_36 hP
            have hD : va_D A (mw cI cZ h0 mq mi_96 (va_up ma_97 36 (upd (ma_97 36) x_158.toNatClampNeg (vp_nar .boolean (1 : Int32))))) := mwD_36 hD
            generalize hma_160 : va_up ma_97 36 (upd (ma_97 36) x_158.toNatClampNeg (vp_nar .boolean (1 : Int32))) = ma_160 at hP hD
            have hI : MB mi_96 ma_160 := by rw [← hma_160]; exact MBa_kp hI (f := f.toNatClampNeg) (j := 0) (by have c1 := cl_toInt (i := x_158) (by omega); have c2 := cl_toInt hf0; omega) (by omega) (fun _ => by omega)
            have hFA : ∀ k, k ∉ ([38, 39, 36, 34, 40, 37, 20, 21, 22, 23, 24, 25] : List Nat) → ma_160 k = ma0 k := fun k hk => by rw [← hma_160]; exact (va_up_ne _ _ (fun e => hk (by rw [e]; decide))).trans (hFA k hk)
            have hE := bs_at hma_160 hE
            have w9 := MB_wanted hI f.toNatClampNeg hfN
            exact (JG_r 1000003000).1 mi_96 ma_160 (1 : Int32) _ _ hP hD hS hI hFI hFA hE (da_keep hU (((hf_98.2.1 4 (by decide))).trans ((show mi_89 4 = mi 4 from (congrFun hmi_89 4).symm))) (((hf_98.2.1 10 (by decide))).trans ((show mi_89 10 = mi 10 from (congrFun hmi_89 10).symm))) (((hf_98.2.1 11 (by decide))).trans ((show mi_89 11 = mi 11 from (congrFun hmi_89 11).symm))) (((hf_98.2.1 17 (by decide))).trans ((show mi_89 17 = mi 17 from (congrFun hmi_89 17).symm))) (((hf_98.2.1 18 (by decide))).trans ((show mi_89 18 = mi 18 from (congrFun hmi_89 18).symm))) (((hf_98.2.1 19 (by decide))).trans ((show mi_89 19 = mi 19 from (congrFun hmi_89 19).symm))) (((mu_ne (k := 36) (j := 20) hma_160 (by decide))).trans (((hf_98.2.2 20 (by decide))).trans ((mu_ne (k := 38) (j := 20) hma_94 (by decide))))) (((mu_ne (k := 36) (j := 40) hma_160 (by decide))).trans (((hf_98.2.2 40 (by decide))).trans ((mu_ne (k := 38) (j := 40) hma_94 (by decide))))) (((mu_ne (k := 36) (j := 41) hma_160 (by decide))).trans (((hf_98.2.2 41 (by decide))).trans ((mu_ne (k := 38) (j := 41) hma_94 (by decide)))))) _ (lv_sub hl [3, 4, 5, 6, 2, 0] rfl) (by omega)
          · have t_c_157 := Int32.lt_iff_toInt_lt.mp (Int32.not_le.mp c_157)
            have hE := hE.trans (if_neg c_157)
            refine lv_aload_n hx hb dX11_receives_98 rfl (lv_at hl 3 rfl) ?_
            refine va_get (D := D) (ci := 11) (v := .ref (mq 36)) (C := RX11) (T := TX11) (N := 74) hx hb ha inlX11 hown hK hP 0 mw_at0 rfl 36 (by decide) (ha _ kf_X11_76) (fun _ h9 => h9) rfl dX11_receives_99 ?_
            refine lv_sipush (v := 200) hx hb dX11_receives_102 (by decide) ?_
            refine lv_iload_n hx hb dX11_receives_105 rfl (lv_at hl 4 rfl) ?_
            refine lv_imul hx hb dX11_receives_106 ?_
            refine lv_topi (fun x_161 ex_161 => ?_)
            have hE := bd_at ex_161 hE
            try have t_x_161 := ti_mulc (k := 200) ex_161 tk_200 (by omega) (by omega)
            refine lv_iload hx hb dX11_receives_107 (lv_at hl 0 rfl) ?_
            refine lv_iadd hx hb dX11_receives_109 ?_
            refine lv_topi (fun x_162 ex_162 => ?_)
            have hE := bd_at ex_162 hE
            try have t_x_162 := ti_add ex_162 (by omega) (by omega)
            refine lv_iconst (v := 1) hx hb dX11_receives_110 (by decide) ?_
            have hin_163 : vp_in x_162 800 := vpi_of (by omega) (by omega)
            refine va_zast hx hb hK hP hD hS 18 2 mw_at36 rfl hin_163 dX11_receives_111 (fun H locs hP hD hS => ?_)
            have hP : va_P D vwCl (mw cI cZ h0 mq mi_96 (va_up ma_97 36 (upd (ma_97 36) x_162.toNatClampNeg (vp_nar .boolean (1 : Int32))))) H := mwP_36 hP
            have hD : va_D A (mw cI cZ h0 mq mi_96 (va_up ma_97 36 (upd (ma_97 36) x_162.toNatClampNeg (vp_nar .boolean (1 : Int32))))) := mwD_36 hD
            generalize hma_164 : va_up ma_97 36 (upd (ma_97 36) x_162.toNatClampNeg (vp_nar .boolean (1 : Int32))) = ma_164 at hP hD
            have hI : MB mi_96 ma_164 := by rw [← hma_164]; exact MBa_kp hI (f := f.toNatClampNeg) (j := x_137.toNatClampNeg) (by have c1 := cl_toInt (i := x_162) (by omega); have c2 := cl_toInt hf0; have c3 := cl_toInt (i := x_137) (by omega); omega) (by have c3 := cl_toInt (i := x_137) (by omega); omega) (fun _ => by have c3 := cl_toInt (i := x_137) (by omega); omega)
            have hFA : ∀ k, k ∉ ([38, 39, 36, 34, 40, 37, 20, 21, 22, 23, 24, 25] : List Nat) → ma_164 k = ma0 k := fun k hk => by rw [← hma_164]; exact (va_up_ne _ _ (fun e => hk (by rw [e]; decide))).trans (hFA k hk)
            have hE := bs_at hma_164 hE
            refine lv_goto (tgt := 215) hx hb dX11_receives_112 (by decide) ?_
            exact J_215 mi_96 ma_164 (1 : Int32) (0 : Int32) _ _ hP hD hS hI hFI hFA hE (da_keep hU (((hf_98.2.1 4 (by decide))).trans ((show mi_89 4 = mi 4 from (congrFun hmi_89 4).symm))) (((hf_98.2.1 10 (by decide))).trans ((show mi_89 10 = mi 10 from (congrFun hmi_89 10).symm))) (((hf_98.2.1 11 (by decide))).trans ((show mi_89 11 = mi 11 from (congrFun hmi_89 11).symm))) (((hf_98.2.1 17 (by decide))).trans ((show mi_89 17 = mi 17 from (congrFun hmi_89 17).symm))) (((hf_98.2.1 18 (by decide))).trans ((show mi_89 18 = mi 18 from (congrFun hmi_89 18).symm))) (((hf_98.2.1 19 (by decide))).trans ((show mi_89 19 = mi 19 from (congrFun hmi_89 19).symm))) (((mu_ne (k := 36) (j := 20) hma_164 (by decide))).trans (((hf_98.2.2 20 (by decide))).trans ((mu_ne (k := 38) (j := 20) hma_94 (by decide))))) (((mu_ne (k := 36) (j := 40) hma_164 (by decide))).trans (((hf_98.2.2 40 (by decide))).trans ((mu_ne (k := 38) (j := 40) hma_94 (by decide))))) (((mu_ne (k := 36) (j := 41) hma_164 (by decide))).trans (((hf_98.2.2 41 (by decide))).trans ((mu_ne (k := 38) (j := 41) hma_94 (by decide)))))) _ (lv_sub hl [3, 4, 5, 6, 2, 1] rfl)
        · have t_c_156 := mt Int32.toInt_inj.mp c_156
          have hE := hE.trans (if_neg c_156)
          refine lv_aload_n hx hb dX11_receives_80 rfl (lv_at hl 3 rfl) ?_
          refine va_get (D := D) (ci := 11) (v := .ref (mq 39)) (C := RX11) (T := TX11) (N := 74) hx hb ha inlX11 hown hK hP 0 mw_at0 rfl 39 (by decide) (ha _ kf_X11_85) (fun _ h9 => h9) rfl dX11_receives_81 ?_
          refine lv_iload_n hx hb dX11_receives_84 rfl (lv_at hl 4 rfl) ?_
          refine lv_dup2_11 hx hb dX11_receives_85 rfl rfl ?_
          have hin_165 : vp_in f 4 := vpi_of (by omega) (by omega)
          refine va_iald hx hb hK hP 21 0 mw_at39 rfl hin_165 dX11_receives_86 ?_
          refine lv_topi (fun x_166 ex_166 => ?_)
          have hE := bd_at ex_166 hE
          have u_x_166 := congrArg Int32.toInt ex_166
          refine lv_iconst (v := 1) hx hb dX11_receives_87 (by decide) ?_
          refine lv_iadd hx hb dX11_receives_88 ?_
          refine lv_topi (fun x_167 ex_167 => ?_)
          have hE := bd_at ex_167 hE
          try have t_x_167 := ti_add ex_167 (by omega) (by omega)
          have hin_168 : vp_in f 4 := vpi_of (by omega) (by omega)
          refine va_iast hx hb hK hP hD hS 21 0 mw_at39 rfl hin_168 dX11_receives_89 (fun H locs hP hD hS => ?_)
          have hP : va_P D vwCl (mw cI cZ h0 mq mi_96 (va_up ma_97 39 (upd (ma_97 39) f.toNatClampNeg x_167))) H := mwP_39 hP
          have hD : va_D A (mw cI cZ h0 mq mi_96 (va_up ma_97 39 (upd (ma_97 39) f.toNatClampNeg x_167))) := mwD_39 hD
          generalize hma_169 : va_up ma_97 39 (upd (ma_97 39) f.toNatClampNeg x_167) = ma_169 at hP hD
          have hI : MB mi_96 ma_169 := by rw [← hma_169]; exact MBa_notTaken hI
          have hFA : ∀ k, k ∉ ([38, 39, 36, 34, 40, 37, 20, 21, 22, 23, 24, 25] : List Nat) → ma_169 k = ma0 k := fun k hk => by rw [← hma_169]; exact (va_up_ne _ _ (fun e => hk (by rw [e]; decide))).trans (hFA k hk)
          have hE := bs_at hma_169 hE
          refine lv_goto (tgt := 215) hx hb dX11_receives_90 (by decide) ?_
          exact J_215 mi_96 ma_169 (1 : Int32) (0 : Int32) _ _ hP hD hS hI hFI hFA hE (da_keep hU (((hf_98.2.1 4 (by decide))).trans ((show mi_89 4 = mi 4 from (congrFun hmi_89 4).symm))) (((hf_98.2.1 10 (by decide))).trans ((show mi_89 10 = mi 10 from (congrFun hmi_89 10).symm))) (((hf_98.2.1 11 (by decide))).trans ((show mi_89 11 = mi 11 from (congrFun hmi_89 11).symm))) (((hf_98.2.1 17 (by decide))).trans ((show mi_89 17 = mi 17 from (congrFun hmi_89 17).symm))) (((hf_98.2.1 18 (by decide))).trans ((show mi_89 18 = mi 18 from (congrFun hmi_89 18).symm))) (((hf_98.2.1 19 (by decide))).trans ((show mi_89 19 = mi 19 from (congrFun hmi_89 19).symm))) (((mu_ne (k := 39) (j := 20) hma_169 (by decide))).trans (((hf_98.2.2 20 (by decide))).trans ((mu_ne (k := 38) (j := 20) hma_94 (by decide))))) (((mu_ne (k := 39) (j := 40) hma_169 (by decide))).trans (((hf_98.2.2 40 (by decide))).trans ((mu_ne (k := 38) (j := 40) hma_94 (by decide))))) (((mu_ne (k := 39) (j := 41) hma_169 (by decide))).trans (((hf_98.2.2 41 (by decide))).trans ((mu_ne (k := 38) (j := 41) hma_94 (by decide)))))) _ (lv_sub hl [3, 4, 5, 6, 2, 1] rfl)
