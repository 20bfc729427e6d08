def UF (l : List Nat) (u u2 : Nat → Int32) : Prop := ∀ k, k ∉ l → u2 k = u k
theorem UF_upd {l : List Nat} {u u2 : Nat → Int32} {k : Nat} {v : Int32} (h : UF l u u2) (hk : k ∈ l) : UF l u (upd u2 k v) := fun j hj => (show upd u2 k v j = u2 j from upd_b (fun e : j = k => hj (by rw [e]; exact hk))).trans (h j hj)
theorem UF_refl {l : List Nat} {u : Nat → Int32} : UF l u u := fun _ _ => rfl
theorem UF_trans {l : List Nat} {u u2 u3 : Nat → Int32} (h : UF l u u2) (h2 : UF l u2 u3) : UF l u u3 := fun k hk => (h2 k hk).trans (h k hk)
theorem UF_mono {l l2 : List Nat} {u u2 : Nat → Int32} (h : UF l u u2) (hl : ∀ k, k ∈ l → k ∈ l2) : UF l2 u u2 := fun k hk => h k (fun w => hk (hl k w))
def chold (x : Int32) : Int32 := if ((-100000) : Int32) < (if x < 100000 then x else 100000) then (if x < 100000 then x else 100000) else ((-100000) : Int32)
theorem c14 {c sr now : Int32} {cv : Nat → Int32} (c1 : 1 ≤ c.toInt) : xc_cgrow_14 c sr now cv c sr now = (upd cv 4 (cv 4 + 555008 / c), if c + (if (cjt c (tgt (cv 3) (chold (now - cv 2 + sr / 8 - cv 1)).toInt64) - c.toInt64) * 1024 / c.toInt64 < 1 then (1 : Int64) else (cjt c (tgt (cv 3) (chold (now - cv 2 + sr / 8 - cv 1)).toInt64) - c.toInt64) * 1024 / c.toInt64).toInt32 < cv 4 + 555008 / c then cv 4 + 555008 / c else c + (if (cjt c (tgt (cv 3) (chold (now - cv 2 + sr / 8 - cv 1)).toInt64) - c.toInt64) * 1024 / c.toInt64 < 1 then (1 : Int64) else (cjt c (tgt (cv 3) (chold (now - cv 2 + sr / 8 - cv 1)).toInt64) - c.toInt64) * 1024 / c.toInt64).toInt32) := by
  unfold xc_cgrow_14 cjt tgt chold
  simp only [bd_eq, upd_a, c1mx c1, div64 c1]
theorem cg_main {cv u mi : Nat → Int32} (e1 : cv 1 = u 64) (e2 : cv 2 = u 67) (e3 : cv 3 = u 65) (e4 : cv 4 = u 66) (c1 : 1 ≤ (u 47).toInt) (c2 : (u 47).toInt ≤ 262144) (t1 : 0 ≤ (mi 4).toInt) (t2 : (mi 4).toInt ≤ 100000000) (p1 : 0 ≤ (u 67).toInt) (p2 : (u 67).toInt ≤ (mi 4).toInt) (s1 : 0 ≤ (u 50).toInt) (s2 : (u 50).toInt ≤ 800000000) (k1 : 0 ≤ (u 64).toInt) (k2 : (u 64).toInt ≤ 16384) : ∃ r, xc_cgrow_14 (u 47) (u 50) (mi 4) cv (u 47) (u 50) (mi 4) = (upd cv 4 (u 66 + 555008 / u 47), r) ∧ v_grows_192 mi u = ((v_opens r mi (upd u 66 (u 66 + 555008 / u 47))).1, 0) := by
  have hh : (chold (mi 4 - u 67 + u 50 / 8 - u 64)).toInt64 = rhold ((mi 4).toInt64 - (u 67).toInt64 + (u 50 / 8).toInt64 - (u 64).toInt64) := by
    unfold chold rhold
    rw [cg_hold, cg_d t1 t2 p1 p2 s1 s2 k1 k2]
  have hr := rjt_rg (t := tgt (u 65) (rhold ((mi 4).toInt64 - (u 67).toInt64 + (u 50 / 8).toInt64 - (u 64).toInt64))) c1 c2
  have hq := q_rg c1 c2 hr.1 hr.2
  refine ⟨gwin (u 47) (u 66 + 555008 / u 47) (rjt (u 47) (tgt (u 65) (rhold ((mi 4).toInt64 - (u 67).toInt64 + (u 50 / 8).toInt64 - (u 64).toInt64)))), ?_, ?_⟩
  · rw [c14 c1, e1, e2, e3, e4, hh, cjt_eq c1 c2, max1_64 hq.1 hq.2, mx_eq]
    rfl
  · rw [g192, g255, g331]
/-- the number of bytes to regain, in steps of the cube -/
theorem lN_w {w c : Int32} (h0 : 0 ≤ c.toInt) (h1 : c.toInt ≤ w.toInt) (h2 : w.toInt ≤ 262144) : ∃ N : Nat, N ≤ 640000000000 ∧ (w - c).toInt64 * (2500000000 : Int64) / (1024 : Int64) = lN N := by
  have a1 : (w - c).toInt = w.toInt - c.toInt := ti_sub rfl (by omega) (by omega)
  have a2 : ((w - c).toInt64 * (2500000000 : Int64)).toInt = (w.toInt - c.toInt) * 2500000000 := by
    rw [Int64.toInt_mul, Int32.toInt_toInt64, a1, show (2500000000 : Int64).toInt = 2500000000 by decide]
    exact Int.bmod_eq_of_le (by omega) (by omega)
  have a3 : ((w - c).toInt64 * (2500000000 : Int64) / (1024 : Int64)).toInt = (w.toInt - c.toInt) * 2500000000 / 1024 := by
    rw [Int64.toInt_div_of_ne_right _ _ (by decide), a2, show (1024 : Int64).toInt = 1024 by decide, Int.tdiv_eq_ediv_of_nonneg (by omega)]
  refine ⟨((w.toInt - c.toInt) * 2500000000 / 1024).toNat, by omega, ?_⟩
  apply Int64.toInt_inj.mp
  rw [a3, show (lN ((w.toInt - c.toInt) * 2500000000 / 1024).toNat).toInt = ((((w.toInt - c.toInt) * 2500000000 / 1024).toNat : Nat) : Int) from Int64.toInt_ofNat_of_lt (by omega)]
  omega
theorem cb_main {cv u mi : Nat → Int32} (e0 : cv 0 = u 63) (c1 : 1 ≤ (u 47).toInt) (w2 : (u 63).toInt ≤ 262144) : ∃ k : Nat, k ≤ 16384 ∧ xc_cbegin cv (u 47) (mi 4) = upd (upd (upd (upd cv 2 (mi 4)) 1 (nI k)) 3 (if u 63 ≤ u 47 then u 47 else u 63)) 4 (u 47) ∧ (u 42 = 2 → u 67 = -1 → v_grows mi u = v_grows_192 mi (upd (upd (upd (upd u 67 (mi 4)) 64 (nI k)) 65 (if u 63 ≤ u 47 then u 47 else u 63)) 66 (u 47))) := by
  have hg : ∀ (k : Nat) (x : Nat → Int32), x = upd u 67 (mi 4) → g_tail mi (upd x 64 (nI k)) = v_grows_192 mi (upd (upd (upd x 64 (nI k)) 65 (if u 63 ≤ u 47 then u 47 else u 63)) 66 (u 47)) := by
    intro k x hx
    have q1 : x 63 = u 63 := by rw [hx]; exact upd_b (by decide)
    have q2 : x 47 = u 47 := by rw [hx]; exact upd_b (by decide)
    unfold g_tail
    simp (decide := true) only [upd_a, upd_b, ne_eq, not_false_eq_true]
    rw [q1, q2]
    by_cases h : u 63 ≤ u 47
    · rw [if_pos h, if_pos h]
    · rw [if_neg h, if_neg h]
  by_cases h : u 63 ≤ u 47
  · refine ⟨0, by omega, ?_, ?_⟩
    · unfold xc_cbegin xc_cbegin_36
      simp (decide := true) only [bd_eq, upd_a, upd_b, ne_eq, not_false_eq_true]
      rw [e0, if_pos h, if_pos h, mx_eq]
      have : (if u 47 ≤ u 63 then u 63 else u 47) = u 47 := by
        by_cases h2 : u 47 ≤ u 63
        · rw [if_pos h2]; exact Int32.le_antisymm h h2
        · rw [if_neg h2]
      rw [this]
      rfl
    · intro k2 ep
      unfold v_grows
      simp (decide := true) only [bd_eq, upd_a, upd_b, ne_eq, not_false_eq_true]
      rw [if_pos k2, if_pos ep, if_pos h]
      have := v108_go (mi := mi) (u := upd u 67 (mi 4)) (N := 0) (k := 0) (by decide) (by decide) (by decide) (by decide) 8701 0 (by decide) (by decide)
      rw [show lN 0 = (0 : Int64) by decide, show nI 0 = (0 : Int32) by decide] at this
      rw [this, show (0 : Int32) = nI 0 by decide, hg 0 _ rfl]
  · have hlt := Int32.lt_iff_toInt_lt.mp (Int32.not_le.mp h)
    obtain ⟨N, hN, eN⟩ := lN_w (w := u 63) (c := u 47) (by omega) (by omega) w2
    obtain ⟨k, r1, r2, r3, r4⟩ := xc_root_eq (N := N) (by omega)
    refine ⟨k, by omega, ?_, ?_⟩
    · unfold xc_cbegin xc_cbegin_36
      simp (decide := true) only [bd_eq, upd_a, upd_b, ne_eq, not_false_eq_true]
      rw [e0, if_neg h, if_neg h, eN, r1, mx_eq, if_pos (Int32.le_of_lt (Int32.not_le.mp h))]
    · intro k2 ep
      unfold v_grows
      simp (decide := true) only [bd_eq, upd_a, upd_b, ne_eq, not_false_eq_true]
      rw [if_pos k2, if_pos ep, if_neg h, eN]
      have hk : k < 8701 := by
        rcases Nat.lt_or_ge k 8701 with w | w
        · exact w
        · exfalso
          have := cube_mono w
          omega
      have := v108_go (mi := mi) (u := upd u 67 (mi 4)) (N := N) (k := k) (by omega) r2 r3 (by omega) 8701 0 (by omega) (by omega)
      rw [show nI 0 = (0 : Int32) by decide] at this
      rw [this, hg k _ rfl]
theorem SQ_cgrow {sv tv cv u mi : Nat → Int32} {k0 g0 : Int32} (h : SQ sv tv cv k0 g0 u) (hk : u 42 = 2) (c1 : 1 ≤ (u 47).toInt) (c2 : (u 47).toInt ≤ 262144) (w2 : (u 63).toInt ≤ 262144) (t1 : 0 ≤ (mi 4).toInt) (t2 : (mi 4).toInt ≤ 100000000) (p : u 67 = -1 ∨ (0 ≤ (u 67).toInt ∧ (u 67).toInt ≤ (mi 4).toInt)) (s1 : 0 ≤ (u 50).toInt) (s2 : (u 50).toInt ≤ 800000000) (k1 : 0 ≤ (u 64).toInt) (k2 : (u 64).toInt ≤ 16384) : ∃ cv2 r u2, xc_cgrow cv (sv 6) (tv 1) (mi 4) = (cv2, r) ∧ v_grows mi u = ((v_opens r mi u2).1, 0) ∧ SQ sv tv cv2 k0 g0 u2 ∧ UF [64, 65, 66, 67] u u2 ∧ (0 ≤ (u2 67).toInt ∧ (u2 67).toInt ≤ (mi 4).toInt) ∧ (0 ≤ (u2 64).toInt ∧ (u2 64).toInt ≤ 16384) := by
  rw [SQ_s6 h, SQ_t1 h]
  unfold xc_cgrow
  simp only [bd_eq]
  by_cases hp : cv 2 = -1
  · have hp2 : u 67 = -1 := by rw [← SQ_c2 h]; exact hp
    obtain ⟨k, hk16, hb, hv⟩ := cb_main (cv := cv) (u := u) (mi := mi) (SQ_c0 h) c1 w2
    have ek : (nI k).toInt = k := nI_toInt (by omega)
    rw [if_pos hp, hb]
    generalize ho : (if u 63 ≤ u 47 then u 47 else u 63) = o at hb hv
    have hq := SQ_uc4 (SQ_uc3 (SQ_uc1 (SQ_uc2 h (rfl : mi 4 = mi 4)) (rfl : nI k = nI k)) (rfl : o = o)) (rfl : u 47 = u 47)
    rw [hv hk hp2]
    generalize hu3 : upd (upd (upd (upd u 67 (mi 4)) 64 (nI k)) 65 o) 66 (u 47) = u3 at hq
    generalize upd (upd (upd (upd cv 2 (mi 4)) 1 (nI k)) 3 o) 4 (u 47) = cv3 at hq
    have f47 : u3 47 = u 47 := by rw [← hu3]; simp (decide := true) only [upd_b, ne_eq, not_false_eq_true]
    have f50 : u3 50 = u 50 := by rw [← hu3]; simp (decide := true) only [upd_b, ne_eq, not_false_eq_true]
    have f64 : u3 64 = nI k := by rw [← hu3]; simp (decide := true) only [upd_a, upd_b, ne_eq, not_false_eq_true]
    have f67 : u3 67 = mi 4 := by rw [← hu3]; simp (decide := true) only [upd_a, upd_b, ne_eq, not_false_eq_true]
    have hUF : UF [64, 65, 66, 67] u u3 := by
      rw [← hu3]
      exact UF_upd (UF_upd (UF_upd (UF_upd UF_refl (by decide)) (by decide)) (by decide)) (by decide)
    obtain ⟨r, x1, x2⟩ := cg_main (cv := cv3) (u := u3) (mi := mi) (SQ_c1 hq) (SQ_c2 hq) (SQ_c3 hq) (SQ_c4 hq) (by rw [f47]; exact c1) (by rw [f47]; exact c2) t1 t2 (by rw [f67]; exact t1) (by rw [f67]; exact Int.le_refl _) (by rw [f50]; exact s1) (by rw [f50]; exact s2) (by rw [f64, ek]; omega) (by rw [f64, ek]; omega)
    rw [f47, f50] at x1
    rw [f47] at x2
    refine ⟨_, r, upd u3 66 (u3 66 + 555008 / u 47), x1, x2, SQ_uc4 hq rfl, UF_upd hUF (by decide), ?_, ?_⟩
    · rw [upd_b (by decide), f67]
      exact ⟨t1, Int.le_refl _⟩
    · rw [upd_b (by decide), f64, ek]
      omega
  · have hp2 : ¬ u 67 = -1 := by rw [← SQ_c2 h]; exact hp
    rw [if_neg hp]
    have hv : v_grows mi u = v_grows_192 mi u := by
      unfold v_grows
      simp only [bd_eq]
      rw [if_pos hk, if_neg hp2]
    have hp3 := p.resolve_left hp2
    obtain ⟨r, x1, x2⟩ := cg_main (cv := cv) (u := u) (mi := mi) (SQ_c1 h) (SQ_c2 h) (SQ_c3 h) (SQ_c4 h) c1 c2 t1 t2 hp3.1 hp3.2 s1 s2 k1 k2
    refine ⟨_, r, upd u 66 (u 66 + 555008 / u 47), x1, by rw [hv]; exact x2, SQ_uc4 h rfl, UF_upd UF_refl (by decide), ?_, ?_⟩
    · rw [upd_b (by decide)]
      exact hp3
    · rw [upd_b (by decide)]
      exact ⟨k1, k2⟩
