def wE (a : Nat → Nat → Int32) (K : Nat) : S4 := (a 13 K, a 14 K, a 15 K, a 16 K)
/-- the segments under way, in the order of sending -/
def WQ (GW : List S4) (mi : Nat → Int32) (ma : Nat → Nat → Int32) : Prop := (0 ≤ (mi 10).toInt ∧ (mi 10).toInt + GW.length = (mi 11).toInt ∧ (mi 11).toInt ≤ 4096) ∧ ∀ k e, GW[k]? = some e → e = wE ma ((mi 10).toInt.toNat + k) ∧ (e.2.2.2 = 0 ∨ e.2.2.2 = 1) ∧ (e.2.2.1).toInt < (ma 46 e.2.1.toNatClampNeg).toInt
theorem wE_congr {a b : Nat → Nat → Int32} {K : Nat} (h : ∀ k, k ∈ ([13, 14, 15, 16] : List Nat) → a k = b k) : wE a K = wE b K := by
  unfold wE
  rw [h 13 (by decide), h 14 (by decide), h 15 (by decide), h 16 (by decide)]
theorem WQ_keep {GW : List S4} {mi m : Nat → Int32} {ma a : Nat → Nat → Int32} (h : WQ GW mi ma) (e10 : m 10 = mi 10) (e11 : m 11 = mi 11) (ha : ∀ k, k ∈ ([13, 14, 15, 16] : List Nat) → a k = ma k) (hh : ∀ f, (ma 46 f).toInt ≤ (a 46 f).toInt) : WQ GW m a := by
  obtain ⟨h1, h2⟩ := h
  refine ⟨by rw [e10, e11]; exact h1, fun k e he => ?_⟩
  obtain ⟨q1, q2, q3⟩ := h2 k e he
  refine ⟨by rw [e10, wE_congr ha]; exact q1, q2, ?_⟩
  have := hh e.2.1.toNatClampNeg
  omega
def mvW (a : Nat → Nat → Int32) (p q : Nat) : Nat → Nat → Int32 := va_up (va_up (va_up (va_up a 13 (upd (a 13) p (a 13 q))) 14 (upd (a 14) p (a 14 q))) 15 (upd (a 15) p (a 15 q))) 16 (upd (a 16) p (a 16 q))
theorem x_way_eq {p q : Nat} (hp : p < 4096) (hq : q < 4096) {mi : Nat → Int32} {a : Nat → Nat → Int32} (h : a 16 q = 0 ∨ a 16 q = 1) : x_way (nI p) (nI q) mi a = (mi, mvW a p q, 0) := by
  unfold x_way
  simp only [bd_eq, nI_clamp (show p < 2 ^ 31 by omega), nI_clamp (show q < 2 ^ 31 by omega)]
  simp (decide := true) only [va_up_ne, ne_eq, not_false_eq_true]
  rw [nar01 h]
  rfl
theorem mvW_p {a : Nat → Nat → Int32} {p q : Nat} : wE (mvW a p q) p = wE a q := by
  unfold wE mvW
  simp (decide := true) only [va_up_self, va_up_ne, ne_eq, not_false_eq_true, upd_a]
theorem mvW_j {a : Nat → Nat → Int32} {p q j : Nat} (h : j ≠ p) : wE (mvW a p q) j = wE a j := by
  unfold wE mvW
  simp (decide := true) only [va_up_self, va_up_ne, ne_eq, not_false_eq_true, upd_b h]
theorem mvW_k {a : Nat → Nat → Int32} {p q k : Nat} (h : k ∉ ([13, 14, 15, 16] : List Nat)) : mvW a p q k = a k := by
  have n : ∀ j, j ∈ ([13, 14, 15, 16] : List Nat) → k ≠ j := fun j hj e => h (e ▸ hj)
  unfold mvW
  rw [va_up_ne _ _ (n 16 (by decide)), va_up_ne _ _ (n 15 (by decide)), va_up_ne _ _ (n 14 (by decide)), va_up_ne _ _ (n 13 (by decide))]
theorem wdown_go {mi : Nat → Int32} {ma : Nat → Nat → Int32} {f0 n : Nat} (hn : f0 + n ≤ 4096) (h11 : (mi 11).toInt = ((f0 + n : Nat) : Int)) (h01 : ∀ j, j < n → ma 16 (f0 + j) = 0 ∨ ma 16 (f0 + j) = 1) : ∀ (d p fu : Nat) (b : Nat → Nat → Int32), p + d = n → d < fu → (∀ j, j < p → wE b j = wE ma (f0 + j)) → (∀ j, p ≤ j → wE b j = wE ma j) → (∀ k, k ∉ ([13, 14, 15, 16] : List Nat) → b k = ma k) → ∃ a, x_wayDown_7 fu mi b (nI p) (nI (f0 + p)) = (upd (upd mi 10 0) 11 (nI n), a, 0) ∧ (∀ j, j < n → wE a j = wE ma (f0 + j)) ∧ (∀ k, k ∉ ([13, 14, 15, 16] : List Nat) → a k = ma k)
  | d, p, 0, b, h1, h2, h3, h4, h5 => by omega
  | 0, p, fu + 1, b, h1, h2, h3, h4, h5 => by
    rw [x_wayDown_7]
    simp only [bd_eq]
    rw [if_pos (Int32.le_iff_toInt_le.mpr (by rw [h11, nI_toInt (by omega)]; omega)), show p = n by omega]
    exact ⟨b, rfl, fun j hj => h3 j (by omega), h5⟩
  | d + 1, p, fu + 1, b, h1, h2, h3, h4, h5 => by
    rw [x_wayDown_7]
    simp only [bd_eq]
    have hq := h4 (f0 + p) (by omega)
    have h16 : b 16 (f0 + p) = ma 16 (f0 + p) := congrArg (fun x => x.2.2.2) hq
    rw [if_neg (fun w => by
      have := Int32.le_iff_toInt_le.mp w
      rw [h11, nI_toInt (by omega)] at this
      omega), x_way_eq (by omega) (by omega) (by rw [h16]; exact h01 p (by omega)), bc_eq, nI_1, nI_1]
    refine wdown_go hn h11 h01 d (p + 1) fu (mvW b p (f0 + p)) (by omega) (by omega) (fun j hj => ?_) (fun j hj => (mvW_j (by omega)).trans (h4 j (by omega))) (fun k hk => (mvW_k hk).trans (h5 k hk))
    by_cases e : j = p
    · subst e
      rw [mvW_p]
      exact hq
    · exact (mvW_j e).trans (h3 j (by omega))
theorem WQ_down {GW : List S4} {mi : Nat → Int32} {ma : Nat → Nat → Int32} (h : WQ GW mi ma) : ∃ a, x_wayDown mi ma = (upd (upd mi 10 0) 11 (nI GW.length), a, 0) ∧ WQ GW (upd (upd mi 10 0) 11 (nI GW.length)) a ∧ (∀ k, k ∉ ([13, 14, 15, 16] : List Nat) → a k = ma k) := by
  obtain ⟨⟨h1, h2, h3⟩, h4⟩ := h
  unfold x_wayDown
  simp only [bd_eq]
  obtain ⟨a, x1, x2, x3⟩ := wdown_go (mi := mi) (ma := ma) (f0 := (mi 10).toInt.toNat) (n := GW.length) (by omega) (by omega) (fun j hj => by
    obtain ⟨q1, q2, _⟩ := h4 j _ (List.getElem?_eq_getElem hj)
    rw [q1] at q2
    exact q2) GW.length 0 (((mi 11).toInt - (mi 10).toInt + 1).toNat) ma (by omega) (by omega) (fun j hj => by omega) (fun j _ => rfl) (fun k _ => rfl)
  rw [show nI 0 = (0 : Int32) by decide, show (mi 10).toInt.toNat + 0 = (mi 10).toInt.toNat from rfl, ← nIof h1] at x1
  refine ⟨a, x1, ⟨?_, fun k e he => ?_⟩, x3⟩
  · rw [upd_b (by decide), upd_a, upd_a, nI_toInt (by omega), show (0 : Int32).toInt = 0 by decide]
    omega
  · rw [upd_b (by decide), upd_a, show (0 : Int32).toInt.toNat + k = k by rw [show (0 : Int32).toInt = 0 by decide]; omega]
    have hl := (List.getElem?_eq_some_iff.mp he).1
    obtain ⟨q1, q2, q3⟩ := h4 k e he
    exact ⟨by rw [x2 k hl]; exact q1, q2, by rw [x3 46 (by decide)]; exact q3⟩
/-- the queue moves up -/
def shL (h : Nat → Int32) (i L : Nat) : Nat → Int32 := fun j => if i ≤ j ∧ j < L then h (j + 1) else h j
theorem shL_step {h : Nat → Int32} {i L : Nat} (hi : i < L) : shL (upd h i (h (i + 1))) (i + 1) L = shL h i L := by
  funext j
  unfold shL
  by_cases e : j = i
  · rw [if_neg (show ¬ (i + 1 ≤ j ∧ j < L) from fun w => by omega), if_pos (show i ≤ j ∧ j < L by omega), e, upd_a]
  · by_cases c : i + 1 ≤ j ∧ j < L
    · rw [if_pos c, if_pos (show i ≤ j ∧ j < L by omega), upd_b (by omega)]
    · rw [if_neg c, if_neg (show ¬ (i ≤ j ∧ j < L) from fun w => c (by omega)), upd_b e]
theorem shL_end {h : Nat → Int32} {L : Nat} : shL h L L = h := by
  funext j
  unfold shL
  exact if_neg (fun w => by omega)
theorem goes168 {mi : Nat → Int32} {L : Nat} (hL : L ≤ 100) (h6 : mi 6 = nI L) : ∀ (d i fu : Nat) (ma : Nat → Nat → Int32), i + d = L → d < fu → (∀ j, j < L → ma 9 (j + 1) = 0 ∨ ma 9 (j + 1) = 1) → x_goes_168 fu mi ma (nI i) = some (upd mi 5 (mi 4 + mi 0), va_up (va_up (va_up ma 7 (shL (ma 7) i L)) 8 (shL (ma 8) i L)) 9 (shL (ma 9) i L), 0)
  | d, i, 0, ma, h1, h2, h3 => by omega
  | 0, i, fu + 1, ma, h1, h2, h3 => by
    rw [x_goes_168]
    simp only [bd_eq]
    rw [h6, show i = L by omega, if_pos (Int32.le_refl _), shL_end, shL_end, shL_end, va_id, va_id, va_id]
  | d + 1, i, fu + 1, ma, h1, h2, h3 => by
    rw [x_goes_168]
    simp only [bd_eq]
    rw [h6, if_neg (fun w => by have := (nIle (by omega) (by omega)).mp w; omega), nI_1, nI_clamp (show i < 2 ^ 31 by omega), nI_clamp (show i + 1 < 2 ^ 31 by omega)]
    simp (decide := true) only [va_up_ne, ne_eq, not_false_eq_true]
    rw [nar01 (h3 i (by omega)), goes168 hL h6 d (i + 1) fu _ (by omega) (by omega) (fun j hj => by
      rw [va_up_self]
      by_cases e : j + 1 = i
      · rw [e, upd_a]
        exact h3 i (by omega)
      · rw [upd_b e]
        exact h3 j hj)]
    congr 3
    simp (decide := true) only [va_up_ne, va_up_self, ne_eq, not_false_eq_true]
    rw [shL_step (by omega), shL_step (by omega), shL_step (by omega)]
    funext k
    by_cases e9 : k = 9
    · rw [e9, va_up_self, va_up_self]
    · rw [va_up_ne _ _ e9, va_up_ne _ _ e9]
      by_cases e8 : k = 8
      · rw [e8, va_up_self, va_up_self]
      · rw [va_up_ne _ _ e8, va_up_ne _ _ e8]
        by_cases e7 : k = 7
        · rw [e7, va_up_self, va_up_self]
        · rw [va_up_ne _ _ e7, va_up_ne _ _ e7, va_up_ne _ _ e9, va_up_ne _ _ e8, va_up_ne _ _ e7]
