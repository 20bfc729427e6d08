theorem AG_PK {mi m1 : Nat → Int32} {ma a1 : Nat → Nat → Int32} {F : Nat} (h : PK mi m1 ma a1) : AG (col ma F) (col a1 F) := fun k h1 h2 => congrFun (h.2 k (by
  intro w
  simp only [List.mem_cons, List.not_mem_nil, or_false] at w
  omega)) F
/-- the road stays as it was -/
theorem RR_keep {ov tf : Nat → Int32} {go : Option S4} {gq : List S3} {mi m : Nat → Int32} {ma a : Nat → Nat → Int32} (h : RR ov tf go gq mi ma) (hm : ∀ k, k ∈ ([0, 1, 2, 3, 5, 6, 26, 27, 28, 29, 30] : List Nat) → m k = mi k) (ha : ∀ k, k ∈ ([7, 8, 9, 31] : List Nat) → a k = ma k) (hh : ∀ i, (ma 46 i).toInt ≤ (a 46 i).toInt) : RR ov tf go gq m a := by
  obtain ⟨⟨hA, hB, hC, hN, hS, hL⟩, hq, n1, n2⟩ := h
  refine ⟨⟨?_, ?_, ?_, ?_, ?_, ?_⟩, hq, ?_, ?_⟩
  · rw [hm 0 (by decide), hm 1 (by decide), hm 2 (by decide), hm 3 (by decide)]
    exact hA
  · rw [hm 30 (by decide), hm 26 (by decide), hm 27 (by decide), hm 28 (by decide), hm 29 (by decide)]
    exact hB
  · rw [ha 31 (by decide)]
    exact hC
  · rw [hm 6 (by decide)]
    exact hN
  · rw [hm 6 (by decide), hm 5 (by decide), ha 7 (by decide), ha 8 (by decide), ha 9 (by decide)]
    exact hS
  · rw [ha 7 (by decide), ha 8 (by decide), ha 9 (by decide)]
    exact hL
  · intro c hc
    have q := n1 c hc
    have := hh c.2.1.toNatClampNeg
    exact ⟨by omega, q.2⟩
  · intro e he
    have q := n2 e he
    have := hh e.1.toNatClampNeg
    exact ⟨by omega, q.2⟩
theorem ti_add1 {s : Int32} (h : s.toInt < 2147483647) : (s + 1).toInt = s.toInt + 1 := by
  have := s.le_toInt
  rw [ti_add (x := s + 1) rfl (by rw [show (1 : Int32).toInt = 1 by decide]; simp at this; omega) (by rw [show (1 : Int32).toInt = 1 by decide]; omega), show (1 : Int32).toInt = 1 by decide]
theorem one46 {s t : Int32} {u : Nat → Int32} (hs : s.toInt < 2147483647) : (u 46).toInt ≤ (v_one s t u 46).toInt ∧ s.toInt < (v_one s t u 46).toInt := by
  rw [v_one_46]
  by_cases c : u 46 ≤ s
  · have := Int32.le_iff_toInt_le.mp c
    rw [if_pos c, ti_add1 hs]
    omega
  · have := Int32.lt_iff_toInt_lt.mp (Int32.not_le.mp c)
    rw [if_neg c]
    omega
/-- one segment is launched: the road -/
theorem RR_launch {F : Nat} (hF : F < 4) {ov tf : Nat → Int32} {go : Option S4} {gq : List S3} {mi : Nat → Int32} {ma : Nat → Nat → Int32} {s p : Int32} (hR : RR ov tf go gq mi ma) (b1 : 0 ≤ (mi 30).toInt) (b2 : (mi 30).toInt ≤ 64) (b3 : 0 ≤ (mi 1).toInt) (b4 : (mi 1).toInt ≤ 100) (hz : p = 0 ∨ p = 1) : ∃ ov2 tf2 go2 gq2 m a, xc_launch ov go gq tf (nI F) s p (mi 4) = (ov2, tf2, go2, gq2) ∧ x_puts (nI F) s p mi ma = (m, a, 0) ∧ PK mi m ma a ∧ ∀ a2 : Nat → Nat → Int32, (∀ k, k ∈ ([7, 8, 9, 31] : List Nat) → a2 k = a k) → (∀ i, (ma 46 i).toInt ≤ (a2 46 i).toInt) → s.toInt < (a2 46 F).toInt → RR ov2 tf2 go2 gq2 m a2 := by
  obtain ⟨hQ, hq, n1, n2⟩ := hR
  obtain ⟨ov2, tf2, go2, gq2, m, a, h1, h2, h3, h4⟩ := RQ_launch (n1 := nI F) (n2 := s) (n3 := p) (n4 := mi 4) hQ b1 b2 hq b3 hz rfl
  refine ⟨ov2, tf2, go2, gq2, m, a, h1, h2, h4, fun a2 ha hh hs => ?_⟩
  have hm := launch_mem (ov := ov) (tf := tf) (go := go) (gq := gq) (n1 := nI F) (n2 := s) (n3 := p) (n4 := mi 4)
  have hl := launch_len (ov := ov) (tf := tf) (go := go) (gq := gq) (n1 := nI F) (n2 := s) (n3 := p) (n4 := mi 4) hq (by rw [hQ.1.2.1]; exact b4)
  rw [h1] at hm hl
  have hF2 : (nI F).toNatClampNeg = F := nI_clamp (by omega)
  have hN : NL go2 gq2 a2 := by
    refine ⟨fun c hc => ?_, fun e he => ?_⟩
    · rcases hm.1 c hc with w | w
      · have q := n1 c w
        have := hh c.2.1.toNatClampNeg
        exact ⟨by omega, q.2⟩
      · have e1 : c.2.1 = nI F := congrArg Prod.fst w
        have e2 : c.2.2.1 = s := congrArg (fun x => x.2.1) w
        have e3 : c.2.2.2 = p := congrArg (fun x => x.2.2) w
        rw [e1, e2, e3, hF2]
        exact ⟨hs, hz⟩
    · rcases hm.2 e he with w | w
      · have q := n2 e w
        have := hh e.1.toNatClampNeg
        exact ⟨by omega, q.2⟩
      · rw [w, hF2]
        exact ⟨hs, hz⟩
  have hz2 : RR ov2 tf2 go2 gq2 m (fun k => if k = 46 then a2 46 else a k) := by
    refine ⟨?_, hl, ?_⟩
    · obtain ⟨hA, hB, hC, hN, hS, hL⟩ := h3
      exact ⟨hA, hB, hC, hN, hS, hL⟩
    · exact hN
  exact RR_keep hz2 (fun k _ => rfl) (fun k hk => by
    rw [ha k hk]
    have : k ≠ 46 := fun e => by rw [e] at hk; revert hk; decide
    exact (if_neg this).symm) (fun i => Int.le_refl _)
/-- one segment is sent: sender and road -/
theorem TX {F : Nat} (hF : F < 4) {ov tf : Nat → Int32} {go : Option S4} {gq : List S3} {mi : Nat → Int32} {ma : Nat → Nat → Int32} {k0 g0 s : Int32} {sv tv bv cv : Nat → Int32} {f g : Nat → Int64} (h : SQ sv tv cv k0 g0 (col ma F)) (hR : RR ov tf go gq mi ma) (b1 : 0 ≤ (mi 30).toInt) (b2 : (mi 30).toInt ≤ 64) (b3 : 0 ≤ (mi 1).toInt) (b4 : (mi 1).toInt ≤ 100) (hs : s.toInt < 2147483647) : ∃ ov2 tf2 go2 gq2 m a, xc_transmit ov go gq tf (nI F) k0 g0 sv tv bv cv f g s (mi 4) = ((c_one sv tv g s (mi 4)).1, (c_one sv tv g s (mi 4)).2.1, bv, cv, f, (c_one sv tv g s (mi 4)).2.2, ov2, tf2, go2, gq2) ∧ x_sendsOne (nI F) s mi ma = (m, a, 0) ∧ RR ov2 tf2 go2 gq2 m a ∧ SQ (c_one sv tv g s (mi 4)).1 (c_one sv tv g s (mi 4)).2.1 cv k0 g0 (col a F) ∧ SFR F mi ma m a ∧ AG (v_one s (mi 4) (col ma F)) (col a F) ∧ a 71 = ma 71 ∧ a 72 = ma 72 ∧ (∀ k, k ∉ ([5, 6, 26, 27, 28, 30] : List Nat) → m k = mi k) := by
  obtain ⟨ov2, tf2, go2, gq2, m, a, h1, h2, hPK, hRR⟩ := RR_launch hF (s := s) (p := 0) hR b1 b2 b3 b4 (Or.inl rfl)
  have m4 : m 4 = mi 4 := hPK.1 4 (by decide)
  have hAG := AG_PK (F := F) hPK
  have hU : UF [46, 59, 61, 69, 70] (col a F) (v_one s (m 4) (col a F)) := v_one_UF
  have hA2 : AG (v_one s (mi 4) (col ma F)) (col (setc a F (v_one s (m 4) (col a F))) F) := by
    rw [col_setc, m4]
    exact v_one_AG hAG
  have h46 : ∀ i, (ma 46 i).toInt ≤ (setc a F (v_one s (m 4) (col a F)) 46 i).toInt := by
    intro i
    by_cases e : i = F
    · subst e
      rw [setc_at]
      have := (one46 (t := m 4) (u := col a i) hs).1
      have e2 : col a i 46 = ma 46 i := hAG 46 (by decide) (by decide)
      rw [e2] at this
      exact this
    · rw [setc_ne e, hPK.2 46 (by decide)]
      exact Int.le_refl _
  refine ⟨ov2, tf2, go2, gq2, m, setc a F (v_one s (m 4) (col a F)), ?_, x_sendsOne_c hF h2, ?_, ?_, ?_, hA2, ?_, ?_, hPK.1⟩
  · rw [xc_transmit_eq hs, h1]
  · refine hRR _ (fun k hk => setc_keep hU (fun w => ?_)) h46 ?_
    · revert hk w
      simp only [List.mem_cons, List.not_mem_nil, or_false]
      omega
    · rw [setc_at]
      exact (one46 hs).2
  · exact SQ_congr (SQ_one h) hA2
  · refine SFR_trans (SFR_PK hPK) (SFR_setc (fun k hk => hU k (by
      simp only [List.mem_cons, List.not_mem_nil, or_false]
      omega)) ?_)
    have := h46 F
    rw [setc_at] at this
    rw [hPK.2 46 (by decide)]
    exact this
  · rw [setc_keep hU (by decide), hPK.2 71 (by decide)]
  · rw [setc_keep hU (by decide), hPK.2 72 (by decide)]
