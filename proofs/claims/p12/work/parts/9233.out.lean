theorem bc_eq {β : Type} (m : Nat → Int32) (a : Nat → Nat → Int32) (r : Int32) (k : (Nat → Int32) → (Nat → Nat → Int32) → Int32 → β) : bc (m, a, r) k = k m a r := Eq.symm (Eq.symm rfl)
theorem ax_some {β : Type} {P : Prop} {t : Option β} {x : β} (h : ax P t = some x) : P ∧ t = some x := by
  unfold ax at h
  by_cases p : P
  · rw [if_pos p] at h
    exact ⟨p, h⟩
  · rw [if_neg p] at h
    cases h
theorem mk_congr {B B2 : Nat → Int32} {k : Nat} : ∀ {n : Nat}, (∀ i, i < n → B2 i = B i) → mk B2 k n = mk B k n
  | 0, _ => rfl
  | n + 1, h => by
    have e1 : mk B2 k (n + 1) = mk B2 k n + (if k ≤ n ∧ ¬ B2 n = 0 then 1 else 0) := rfl
    have e2 : mk B k (n + 1) = mk B k n + (if k ≤ n ∧ ¬ B n = 0 then 1 else 0) := rfl
    rw [e1, e2, mk_congr (fun i hi => h i (by omega)), h n (by omega)]
theorem psum_congr {B B2 R R2 : Nat → Int32} {U L : Nat} {bg nx : Int32} (hB : ∀ i, i < L → B2 i = B i) (hR : ∀ i, i < L → R2 i = R i) : ∀ {k : Nat}, k ≤ L → psum B2 R2 U L bg nx k = psum B R U L bg nx k
  | 0, _ => rfl
  | k + 1, h => by
    have e1 : psum B2 R2 U L bg nx (k + 1) = psum B2 R2 U L bg nx k + pw B2 R2 U L bg nx k := rfl
    have e2 : psum B R U L bg nx (k + 1) = psum B R U L bg nx k + pw B R U L bg nx k := rfl
    rw [e1, e2, psum_congr hB hR (by omega)]
    unfold pw
    rw [hB k (by omega), hR k (by omega)]
    simp only [lostB, mk_congr hB]
theorem lst_congr {B B2 R R2 : Nat → Int32} {U L : Nat} {bg : Int32} (hB : ∀ i, i < L → B2 i = B i) (hR : ∀ i, i < L → R2 i = R i) : ∀ {k : Nat} {x : Int32}, k ≤ L → lst B2 R2 U L bg k x = lst B R U L bg k x
  | 0, _, _ => rfl
  | k + 1, x, h => by
    have e1 : lst B2 R2 U L bg (k + 1) x = lst B2 R2 U L bg k (if hitB B2 R2 U L bg k then nI (U + k) else x) := rfl
    have e2 : lst B R U L bg (k + 1) x = lst B R U L bg k (if hitB B R U L bg k then nI (U + k) else x) := rfl
    rw [e1, e2, lst_congr hB hR (by omega)]
    simp only [hitB, lostB, mk_congr hB, hB k (show k < L by omega), hR k (show k < L by omega)]
/-- what is out, and the least that is lost -/
def ouL (F : Nat) (a : Nat → Nat → Int32) : Nat := ((a 46 F).toInt - (a 44 F).toInt).toNat
def ouv (F : Nat) (a : Nat → Nat → Int32) : Int32 := if a 42 F = 3 ∧ ¬ a 54 F = 0 then nI (psum (fun i => a 71 (200 * F + i)) (fun i => a 72 (512 * F + ((a 44 F).toInt.toNat + i) % 512)) (a 44 F).toInt.toNat (ouL F a) (a 56 F) (a 45 F) (ouL F a)) else a 45 F - a 44 F
def oul (F : Nat) (a : Nat → Nat → Int32) : Int32 := if a 42 F = 3 ∧ ¬ a 54 F = 0 then lst (fun i => a 71 (200 * F + i)) (fun i => a 72 (512 * F + ((a 44 F).toInt.toNat + i) % 512)) (a 44 F).toInt.toNat (ouL F a) (a 56 F) (ouL F a) (-1) else -1
def oum (F : Nat) (mi : Nat → Int32) (a : Nat → Nat → Int32) : Nat → Int32 := if a 42 F = 3 ∧ ¬ a 54 F = 0 then upd mi 73 (oul F a) else mi
/-- the ranges of a sender's numbers -/
def NB (F : Nat) (a : Nat → Nat → Int32) : Prop := 0 ≤ (a 44 F).toInt ∧ (a 44 F).toInt ≤ 1000001 ∧ (a 44 F).toInt ≤ (a 46 F).toInt ∧ (a 46 F).toInt ≤ (a 44 F).toInt + 200
theorem x_out_eq {F : Nat} (hF : F < 4) {mi : Nat → Int32} {a : Nat → Nat → Int32} (hn : NB F a) : x_out (nI F) mi a = (oum F mi a, a, ouv F a) := by
  obtain ⟨n1, n2, n3, n4⟩ := hn
  unfold x_out
  simp only [bd_eq]
  rw [nI_clamp (show F < 2 ^ 31 by omega)]
  unfold oum ouv
  by_cases c : a 42 F = 3
  · rw [if_pos c]
    by_cases d : a 54 F = 0
    · rw [if_pos d, if_neg (fun w => w.2 d), if_neg (fun w => w.2 d)]
    · rw [if_neg d, if_pos ⟨c, d⟩, if_pos ⟨c, d⟩]
      have hU : a 44 F = nI (a 44 F).toInt.toNat := nIof n1
      have hH : a 46 F = nI ((a 44 F).toInt.toNat + ouL F a) := by
        rw [nIof (show 0 ≤ (a 46 F).toInt by omega)]
        unfold ouL
        congr 1
        omega
      rw [x_pipe_eq hF (U := (a 44 F).toInt.toNat) (L := ouL F a) (by omega) (by unfold ouL; omega) hU hH, bc_eq]
      unfold oul
      rw [if_pos ⟨c, d⟩]
  · rw [if_neg c, if_neg (fun w => c w.1), if_neg (fun w => c w.1)]
theorem xc_byBoard_eq {n0 k0 g0 : Int32} {sv tv bv cv : Nat → Int32} {f g : Nat → Int64} : xc_byBoard n0 k0 g0 sv tv bv cv f g = (sv, tv, bv, cv, f, g, if k0 = 3 ∧ ¬ sv 11 = 0 then 1 else 0) := by
  unfold xc_byBoard
  simp only [bd_eq]
  by_cases d : sv 11 = 0
  · rw [if_pos d, if_neg (fun w => w.2 d)]
  · rw [if_neg d]
    by_cases c : k0 = 3
    · rw [if_pos c, if_pos ⟨c, d⟩]
    · rw [if_neg c, if_neg (fun w => c w.1)]
theorem BQ_CB2 {F : Nat} {T : Int} {k0 g0 : Int32} {sv tv bv cv : Nat → Int32} {f g : Nat → Int64} {mi : Nat → Int32} {a : Nat → Nat → Int32} (h : FQ F T k0 g0 sv tv bv cv f g mi a) (hn : NB F a) (hk : k0 = 3) (hr : ¬ sv 11 = 0) : CB (fun i => a 71 (200 * F + i)) (fun i => a 72 (512 * F + ((a 44 F).toInt.toNat + i) % 512)) (a 44 F).toInt.toNat (ouL F a) (a 56 F) bv f g := by
  obtain ⟨hS, hI, hB⟩ := h
  have e1 : sv 11 = a 54 F := SQ_s11 hS
  have e2 : k0 = a 42 F := SQ_k hS
  have hr2 : ¬ a 54 F = 0 := by rw [← e1]; exact hr
  obtain ⟨n1, n2, n3, n4⟩ := hn
  have hq := (hI.2.2.2.2.2.2.2 (by show a 42 F = 3; rw [← e2]; exact hk)).2 hr2
  exact BQ_CB (hB hk) hr2 n1 n2 n3 n4 hq.2.1
theorem xc_out_eq {F : Nat} {T : Int} {n0 k0 g0 : Int32} {sv tv bv cv : Nat → Int32} {f g : Nat → Int64} {mi : Nat → Int32} {a : Nat → Nat → Int32} (h : FQ F T k0 g0 sv tv bv cv f g mi a) (hn : NB F a) : xc_out n0 k0 g0 sv tv bv cv f g = (sv, tv, bv, cv, f, g, ouv F a) := by
  have hS := h.1
  have e1 : sv 11 = a 54 F := SQ_s11 hS
  have e2 : k0 = a 42 F := SQ_k hS
  have e3 : sv 3 = a 44 F := SQ_s3 hS
  have e4 : sv 4 = a 45 F := SQ_s4 hS
  have e5 : sv 5 = a 46 F := SQ_s5 hS
  unfold xc_out
  simp only [bd_eq, xc_byBoard_eq]
  by_cases c : k0 = 3 ∧ ¬ sv 11 = 0
  · have hCB := BQ_CB2 h hn c.1 c.2
    obtain ⟨n1, n2, n3, n4⟩ := hn
    simp (decide := true) only [if_pos c, ↓reduceIte]
    have hU : a 44 F = nI (a 44 F).toInt.toNat := nIof n1
    have hH : a 46 F = nI ((a 44 F).toInt.toNat + ouL F a) := by
      rw [nIof (show 0 ≤ (a 46 F).toInt by omega)]
      unfold ouL
      congr 1
      omega
    have hp := cpipe_eq (nx := a 45 F) hCB (by omega) (by unfold ouL; omega)
    rw [← hU, ← hH] at hp
    rw [e3, e4, e5, hp]
    unfold ouv
    rw [if_pos (show a 42 F = 3 ∧ ¬ a 54 F = 0 by rw [← e1, ← e2]; exact c)]
  · simp (decide := true) only [if_neg c, ↓reduceIte]
    unfold ouv
    rw [if_neg (show ¬ (a 42 F = 3 ∧ ¬ a 54 F = 0) by rw [← e1, ← e2]; exact c), e3, e4]
/-- the next to be sent, or -1 -/
def nxR (F : Nat) (a : Nat → Nat → Int32) : Int32 := if a 47 F / 1024 ≤ ouv F a then -1 else if ¬ oul F a = -1 then oul F a else if a 43 F ≤ a 45 F then -1 else if a 44 F + a 60 F ≤ a 45 F then -1 else a 45 F
theorem xc_next_eq {F : Nat} {T : Int} {n0 k0 g0 : Int32} {sv tv bv cv : Nat → Int32} {f g : Nat → Int64} {mi : Nat → Int32} {a : Nat → Nat → Int32} (h : FQ F T k0 g0 sv tv bv cv f g mi a) (hn : NB F a) : xc_next n0 k0 g0 sv tv bv cv f g = (sv, tv, bv, cv, f, g, nxR F a) := by
  have hS := h.1
  have e1 : sv 11 = a 54 F := SQ_s11 hS
  have e2 : k0 = a 42 F := SQ_k hS
  have e3 : sv 3 = a 44 F := SQ_s3 hS
  have e4 : sv 4 = a 45 F := SQ_s4 hS
  have e5 : sv 5 = a 46 F := SQ_s5 hS
  have e6 : sv 6 = a 47 F := SQ_s6 hS
  have e9 : sv 9 = a 60 F := SQ_s9 hS
  have eg : g0 = a 43 F := SQ_g hS
  have h43 : ∀ s0 : Int32, xc_next_43 n0 k0 g0 sv tv bv f g cv s0 = (sv, tv, bv, cv, f, g, if ¬ s0 = -1 then s0 else if a 43 F ≤ a 45 F then -1 else if a 44 F + a 60 F ≤ a 45 F then -1 else a 45 F) := by
    intro s0
    unfold xc_next_43
    simp only [bd_eq]
    rw [e3, e4, e9, eg]
    by_cases c : s0 = -1
    · rw [if_pos c, if_neg (show ¬ ¬ s0 = -1 from fun w => w c)]
      by_cases d : a 43 F ≤ a 45 F
      · rw [if_pos d, if_pos d]
      · rw [if_neg d, if_neg d]
        split <;> rfl
    · rw [if_neg c, if_pos c]
  unfold xc_next nxR
  simp only [bd_eq, xc_out_eq h hn, xc_byBoard_eq, h43]
  rw [e6]
  by_cases c1 : a 47 F / 1024 ≤ ouv F a
  · rw [if_pos c1, if_neg (Int32.not_lt.mpr c1)]
  · rw [if_neg c1, if_pos (Int32.not_le.mp c1)]
    by_cases c : k0 = 3 ∧ ¬ sv 11 = 0
    · have hCB := BQ_CB2 h hn c.1 c.2
      obtain ⟨n1, n2, n3, n4⟩ := hn
      simp (decide := true) only [if_pos c, ↓reduceIte]
      have hU : a 44 F = nI (a 44 F).toInt.toNat := nIof n1
      have hH : a 46 F = nI ((a 44 F).toInt.toNat + ouL F a) := by
        rw [nIof (show 0 ≤ (a 46 F).toInt by omega)]
        unfold ouL
        congr 1
        omega
      have hp := leastLost_eq hCB (by omega) (by unfold ouL; omega)
      rw [← hU, ← hH] at hp
      rw [e3, e5, hp]
      have ho : oul F a = lst (fun i => a 71 (200 * F + i)) (fun i => a 72 (512 * F + ((a 44 F).toInt.toNat + i) % 512)) (a 44 F).toInt.toNat (ouL F a) (a 56 F) (ouL F a) (-1) := by
        unfold oul
        rw [if_pos (show a 42 F = 3 ∧ ¬ a 54 F = 0 by rw [← e1, ← e2]; exact c)]
      show xc_next_43 n0 k0 g0 sv tv bv f g cv _ = _
      rw [h43, ho]
    · simp (decide := true) only [if_neg c, ↓reduceIte]
      have ho : oul F a = -1 := by
        unfold oul
        rw [if_neg (show ¬ (a 42 F = 3 ∧ ¬ a 54 F = 0) by rw [← e1, ← e2]; exact c)]
      rw [ho]
      simp (decide := true) only [↓reduceIte]
