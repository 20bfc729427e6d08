/-- one entry of the acks' rows as another -/
def ENT (a : Nat → Nat → Int32) (J : Nat) (ma : Nat → Nat → Int32) (K : Nat) : Prop := (∀ k, k ∈ ([20, 21, 22, 23, 24] : List Nat) → a k J = ma k K) ∧ ∀ i, i < 200 → a 25 (200 * J + i) = ma 25 (200 * K + i)
theorem ENT_refl {a : Nat → Nat → Int32} {J : Nat} : ENT a J a J := ⟨fun _ _ => rfl, fun _ _ => rfl⟩
theorem ENT_trans {a b c : Nat → Nat → Int32} {i j k : Nat} (h : ENT a i b j) (h2 : ENT b j c k) : ENT a i c k := ⟨fun x hx => (h.1 x hx).trans (h2.1 x hx), fun x hx => (h.2 x hx).trans (h2.2 x hx)⟩
def AE (e : A6) (K : Nat) (ma : Nat → Nat → Int32) : Prop := e.1 = ma 20 K ∧ e.2.1 = ma 21 K ∧ (ma 24 K = 0 ∨ ma 24 K = 1) ∧ AKq (ma 21 K).toNatClampNeg K e ma
theorem AE_move {e : A6} {J K : Nat} {ma a : Nat → Nat → Int32} (h : AE e K ma) (he : ENT a J ma K) (hh : ∀ f, (ma 46 f).toInt ≤ (a 46 f).toInt) : AE e J a := by
  obtain ⟨h1, h2, h3, k1, k2, k3, k4, k5, k6, k7⟩ := h
  have e20 := he.1 20 (by decide)
  have e21 := he.1 21 (by decide)
  have e22 := he.1 22 (by decide)
  have e23 := he.1 23 (by decide)
  have e24 := he.1 24 (by decide)
  have z := hh (ma 21 K).toNatClampNeg
  refine ⟨by rw [e20]; exact h1, by rw [e21]; exact h2, by rw [e24]; exact h3, by rw [e22]; exact k1, by rw [e23]; exact k2, by rw [e24]; exact k3, fun i hi => ?_, ?_, fun i hi w => ?_, ?_⟩
  · rw [he.2 i hi, e22]
    exact k4 i hi
  · have := he.2 0 (by omega)
    rw [show 200 * J + 0 = 200 * J from rfl, show 200 * K + 0 = 200 * K from rfl] at this
    rw [this]
    exact k5
  · rw [he.2 i hi] at w
    have := k6 i hi w
    rw [e22, e21]
    omega
  · rw [e22, e21]
    omega
theorem AE_01 {e : A6} {K : Nat} {ma : Nat → Nat → Int32} (h : AE e K ma) : (ma 24 K = 0 ∨ ma 24 K = 1) ∧ ∀ i, i < 200 → ma 25 (200 * K + i) = 0 ∨ ma 25 (200 * K + i) = 1 := ⟨h.2.2.1, fun i hi => by rw [h.2.2.2.2.2.2.1 i hi]; exact b01_z⟩
/-- the acks in flight, in the order of sending -/
def AQ (GA : List A6) (mi : Nat → Int32) (ma : Nat → Nat → Int32) : Prop := (0 ≤ (mi 17).toInt ∧ (mi 17).toInt + GA.length = (mi 18).toInt ∧ (mi 18).toInt ≤ 6000) ∧ ∀ k e, GA[k]? = some e → AE e ((mi 17).toInt.toNat + k) ma
theorem AQ_keep {GA : List A6} {mi m : Nat → Int32} {ma a : Nat → Nat → Int32} (h : AQ GA mi ma) (e17 : m 17 = mi 17) (e18 : m 18 = mi 18) (ha : ∀ k, k ∈ ([20, 21, 22, 23, 24, 25] : List Nat) → a k = ma k) (hh : ∀ f, (ma 46 f).toInt ≤ (a 46 f).toInt) : AQ GA m a := by
  obtain ⟨h1, h2⟩ := h
  refine ⟨by rw [e17, e18]; exact h1, fun k e he => ?_⟩
  rw [e17]
  refine AE_move (h2 k e he) ⟨fun j hj => by rw [ha j (by revert hj; exact sub_of (by decide) j)], fun i _ => by rw [ha 25 (by decide)]⟩ hh
theorem cpy_step2 {h : Nat → Int32} {p q i : Nat} (hi : i < 200) (hpq : p ≠ q) : cpy (upd h (200 * p + i) (h (200 * q + i))) (upd h (200 * p + i) (h (200 * q + i))) (200 * p) (200 * q) (i + 1) 200 = cpy h h (200 * p) (200 * q) i 200 := by
  funext j
  unfold cpy
  by_cases e : j = 200 * p + i
  · rw [if_neg (show ¬ (200 * p + (i + 1) ≤ j ∧ j < 200 * p + 200) from fun w => by omega), if_pos (show 200 * p + i ≤ j ∧ j < 200 * p + 200 by omega), e, upd_a, show 200 * p + i - 200 * p = i by omega]
  · rw [upd_b e]
    by_cases c : 200 * p + (i + 1) ≤ j ∧ j < 200 * p + 200
    · rw [if_pos c, if_pos (show 200 * p + i ≤ j ∧ j < 200 * p + 200 by omega), upd_b (by omega)]
    · rw [if_neg c, if_neg (show ¬ (200 * p + i ≤ j ∧ j < 200 * p + 200) from fun w => c (by omega))]
/-- an entry moves down -/
def mv5 (a : Nat → Nat → Int32) (p q : Nat) : Nat → Nat → Int32 := va_up (va_up (va_up (va_up (va_up a 20 (upd (a 20) p (a 20 q))) 21 (upd (a 21) p (a 21 q))) 22 (upd (a 22) p (a 22 q))) 23 (upd (a 23) p (a 23 q))) 24 (upd (a 24) p (a 24 q))
def mvA (a : Nat → Nat → Int32) (p q : Nat) : Nat → Nat → Int32 := va_up (mv5 a p q) 25 (cpy (a 25) (a 25) (200 * p) (200 * q) 0 200)
theorem mv5_k {a : Nat → Nat → Int32} {p q k : Nat} (h : k ∉ ([20, 21, 22, 23, 24] : List Nat)) : mv5 a p q k = a k := by
  have n : ∀ j, j ∈ ([20, 21, 22, 23, 24] : List Nat) → k ≠ j := fun j hj e => h (e ▸ hj)
  unfold mv5
  rw [va_up_ne _ _ (n 24 (by decide)), va_up_ne _ _ (n 23 (by decide)), va_up_ne _ _ (n 22 (by decide)), va_up_ne _ _ (n 21 (by decide)), va_up_ne _ _ (n 20 (by decide))]
theorem mv5_e {a : Nat → Nat → Int32} {p q k : Nat} (h : k ∈ ([20, 21, 22, 23, 24] : List Nat)) : mv5 a p q k = upd (a k) p (a k q) := by
  unfold mv5
  simp only [List.mem_cons, List.not_mem_nil, or_false] at h
  rcases h with h | h | h | h | h <;> subst h <;> simp (decide := true) only [va_up_self, va_up_ne, ne_eq, not_false_eq_true]
theorem mvA_k {a : Nat → Nat → Int32} {p q k : Nat} (h : k ∉ ([20, 21, 22, 23, 24, 25] : List Nat)) : mvA a p q k = a k := by
  unfold mvA
  rw [va_up_ne _ _ (fun e => h (by rw [e]; decide)), mv5_k (fun w => h (by revert w; exact sub_of (by decide) k))]
theorem mvA_p {a : Nat → Nat → Int32} {p q : Nat} : ENT (mvA a p q) p a q := by
  refine ⟨fun k hk => ?_, fun i hi => ?_⟩
  · unfold mvA
    rw [va_up_ne _ _ (fun e => by rw [e] at hk; revert hk; decide), mv5_e hk, upd_a]
  · unfold mvA cpy
    rw [va_up_self, if_pos (show 200 * p + 0 ≤ 200 * p + i ∧ 200 * p + i < 200 * p + 200 by omega), show 200 * p + i - 200 * p = i by omega]
theorem mvA_j {a : Nat → Nat → Int32} {p q j : Nat} (h : j ≠ p) : ENT (mvA a p q) j a j := by
  refine ⟨fun k hk => ?_, fun i hi => ?_⟩
  · unfold mvA
    rw [va_up_ne _ _ (fun e => by rw [e] at hk; revert hk; decide), mv5_e hk, upd_b h]
  · unfold mvA cpy
    rw [va_up_self, if_neg (show ¬ (200 * p + 0 ≤ 200 * j + i ∧ 200 * j + i < 200 * p + 200) from fun w => by omega)]
theorem dF130 {p q : Nat} (hp : p < 6000) (hq : q < 6000) (hpq : p ≠ q) {f : Int32} {mi : Nat → Int32} {fu : Nat} : ∀ (d i : Nat) (ma : Nat → Nat → Int32), i + d = 200 → (∀ i, i < 200 → ma 25 (200 * q + i) = 0 ∨ ma 25 (200 * q + i) = 1) → x_acksDownF_a f (fu + d + 1) 130 mi ma (nI p) (nI q) (nI i) = x_acksDownF_a f fu 171 mi (va_up ma 25 (cpy (ma 25) (ma 25) (200 * p) (200 * q) i 200)) (nI p) (nI q) 0
  | 0, i, ma, h, h1 => by
    rw [show fu + 0 + 1 = fu + 1 from rfl, x_acksDownF_a, if_neg (by decide), if_pos rfl, show i = 200 by omega, if_pos (show (200 : Int32) ≤ nI 200 by decide), cpy_end, va_id]
  | d + 1, i, ma, h, h1 => by
    rw [show fu + (d + 1) + 1 = (fu + d + 1) + 1 from rfl, x_acksDownF_a, if_neg (by decide), if_pos rfl, if_neg (fun w => by
      have := Int32.le_iff_toInt_le.mp w
      rw [nI_toInt (by omega), show (200 : Int32).toInt = 200 by decide] at this
      omega)]
    simp only [bd_eq]
    rw [mul200b hp, mul200b hq, nI_add, nI_add, nI_clamp (show 200 * p + i < 2 ^ 31 by omega), nI_clamp (show 200 * q + i < 2 ^ 31 by omega), nI_1, nar01 (h1 i (by omega)), dF130 hp hq hpq d (i + 1) _ (by omega) (by
      intro j hj
      rw [va_up_self, upd_b (by omega)]
      exact h1 j hj)]
    rw [va_up_self, va_va, cpy_step2 (by omega) hpq]
theorem dF_step {p q : Nat} (hp : p < q) (hq : q < 6000) {f : Int32} {mi : Nat → Int32} {ma : Nat → Nat → Int32} {fu : Nat} (h18 : (q : Int) < (mi 18).toInt) (h24 : ma 24 q = 0 ∨ ma 24 q = 1) (h25 : ∀ i, i < 200 → ma 25 (200 * q + i) = 0 ∨ ma 25 (200 * q + i) = 1) : x_acksDownF_a f (fu + 203) 13 mi ma (nI p) (nI q) 0 = x_acksDownF_a f fu 13 mi (mvA ma p q) (nI (p + 1)) (nI (q + 1)) 0 := by
  rw [show fu + 203 = (fu + 202) + 1 from rfl, x_acksDownF_a, if_pos rfl]
  simp only [bd_eq]
  rw [if_neg (fun w => by
    have := Int32.le_iff_toInt_le.mp w
    rw [nI_toInt (by omega)] at this
    omega), if_neg (fun w => by
    have := (nIle (by omega) (by omega)).mp w
    omega), nI_clamp (show p < 2 ^ 31 by omega), nI_clamp (show q < 2 ^ 31 by omega)]
  simp (decide := true) only [va_up_ne, ne_eq, not_false_eq_true]
  rw [nar01 h24]
  have e5 : va_up (va_up (va_up (va_up (va_up ma 20 (upd (ma 20) p (ma 20 q))) 21 (upd (ma 21) p (ma 21 q))) 22 (upd (ma 22) p (ma 22 q))) 23 (upd (ma 23) p (ma 23 q))) 24 (upd (ma 24) p (ma 24 q)) = mv5 ma p q := rfl
  rw [e5]
  have k25 : mv5 ma p q 25 = ma 25 := mv5_k (by decide)
  have := dF130 (p := p) (q := q) (by omega) hq (by omega) (f := f) (mi := mi) (fu := fu + 1) 200 0 (mv5 ma p q) (by omega) (by rw [k25]; exact h25)
  rw [show nI 0 = (0 : Int32) by decide, show fu + 1 + 200 + 1 = fu + 202 by omega] at this
  rw [this, k25, x_acksDownF_a, if_neg (by decide), if_neg (by decide)]
  simp only [bd_eq]
  rw [nI_1, nI_1]
  rfl
theorem dF_go {f : Int32} {mi : Nat → Int32} {ma : Nat → Nat → Int32} {f0 n : Nat} (hf : 0 < f0) (hn : f0 + n ≤ 6000) (h18 : (mi 18).toInt = ((f0 + n : Nat) : Int)) (h01 : ∀ j, j < n → (ma 24 (f0 + j) = 0 ∨ ma 24 (f0 + j) = 1) ∧ ∀ i, i < 200 → ma 25 (200 * (f0 + j) + i) = 0 ∨ ma 25 (200 * (f0 + j) + i) = 1) : ∀ (d p fu : Nat) (b : Nat → Nat → Int32), p + d = n → 203 * d < fu → (∀ j, j < p → ENT b j ma (f0 + j)) → (∀ j, p ≤ j → ENT b j ma j) → (∀ k, k ∉ ([20, 21, 22, 23, 24, 25] : List Nat) → b k = ma k) → ∃ a, x_acksDownF_a f fu 13 mi b (nI p) (nI (f0 + p)) 0 = (upd (upd mi 17 0) 18 (nI n), a, 0) ∧ (∀ j, j < n → ENT a j ma (f0 + j)) ∧ (∀ k, k ∉ ([20, 21, 22, 23, 24, 25] : List Nat) → a k = ma k)
  | 0, p, 0, b, h1, h2, h3, h4, h5 => by omega
  | 0, p, fu + 1, b, h1, h2, h3, h4, h5 => by
    rw [x_acksDownF_a, if_pos rfl]
    simp only [bd_eq]
    rw [if_pos (Int32.le_iff_toInt_le.mpr (by rw [h18, nI_toInt (by omega)]; omega)), show p = n by omega]
    exact ⟨b, rfl, fun j hj => h3 j (by omega), h5⟩
  | d + 1, p, fu, b, h1, h2, h3, h4, h5 => by
    have hq := h4 (f0 + p) (by omega)
    have hp := h01 p (by omega)
    rw [show fu = (fu - 203) + 203 by omega, dF_step (p := p) (q := f0 + p) (by omega) (by omega) (by omega) (by rw [hq.1 24 (by decide)]; exact hp.1) (fun i hi => by rw [hq.2 i hi]; exact hp.2 i hi)]
    refine dF_go hf hn h18 h01 d (p + 1) (fu - 203) (mvA b p (f0 + p)) (by omega) (by omega) (fun j hj => ?_) (fun j hj => ENT_trans (mvA_j (by omega)) (h4 j (by omega))) (fun k hk => (mvA_k hk).trans (h5 k hk))
    by_cases e : j = p
    · subst e
      exact ENT_trans mvA_p hq
    · exact ENT_trans (mvA_j e) (h3 j (by omega))
theorem dF_zero {f : Int32} {mi : Nat → Int32} {ma : Nat → Nat → Int32} {n : Nat} (hn : n ≤ 6000) (h18 : (mi 18).toInt = (n : Int)) : ∀ (d p fu : Nat), p + d = n → 2 * d < fu → x_acksDownF_a f fu 13 mi ma (nI p) (nI p) 0 = (upd (upd mi 17 0) 18 (nI n), ma, 0)
  | 0, p, 0, h1, h2 => by omega
  | 0, p, fu + 1, h1, h2 => by
    rw [x_acksDownF_a, if_pos rfl]
    simp only [bd_eq]
    rw [if_pos (Int32.le_iff_toInt_le.mpr (by rw [h18, nI_toInt (by omega)]; omega)), show p = n by omega]
  | d + 1, p, fu, h1, h2 => by
    rw [show fu = (fu - 2) + 1 + 1 by omega, x_acksDownF_a, if_pos rfl]
    simp only [bd_eq]
    rw [if_neg (fun w => by
      have := Int32.le_iff_toInt_le.mp w
      rw [nI_toInt (by omega)] at this
      omega), if_pos (Int32.le_refl _), x_acksDownF_a, if_neg (by decide), if_neg (by decide)]
    simp only [bd_eq]
    rw [nI_1]
    exact dF_zero hn h18 d (p + 1) (fu - 2) (by omega) (by omega)
/-- the acks move down to the start -/
theorem AQ_down {GA : List A6} {mi : Nat → Int32} {ma : Nat → Nat → Int32} (h : AQ GA mi ma) : ∃ a, x_acksDownF (mi 17) mi ma = (upd (upd mi 17 0) 18 (nI GA.length), a, 0) ∧ AQ GA (upd (upd mi 17 0) 18 (nI GA.length)) a ∧ (∀ k, k ∉ ([20, 21, 22, 23, 24, 25] : List Nat) → a k = ma k) := by
  obtain ⟨⟨h1, h2, h3⟩, h4⟩ := h
  have hu17 : (upd (upd mi 17 0) 18 (nI GA.length)) 17 = 0 := by rw [upd_b (by decide), upd_a]
  have hu18 : (upd (upd mi 17 0) 18 (nI GA.length)) 18 = nI GA.length := upd_a
  have hfin : ∀ a : Nat → Nat → Int32, (∀ j, j < GA.length → ENT a j ma ((mi 17).toInt.toNat + j)) → (∀ k, k ∉ ([20, 21, 22, 23, 24, 25] : List Nat) → a k = ma k) → AQ GA (upd (upd mi 17 0) 18 (nI GA.length)) a := by
    intro a ha hk
    refine ⟨?_, fun k e he => ?_⟩
    · rw [hu17, hu18, nI_toInt (by omega), show (0 : Int32).toInt = 0 by decide]
      omega
    · rw [hu17, show (0 : Int32).toInt.toNat + k = k by rw [show (0 : Int32).toInt = 0 by decide]; omega]
      have hl := (List.getElem?_eq_some_iff.mp he).1
      exact AE_move (h4 k e he) (ha k hl) (fun f => by rw [hk 46 (by decide)]; exact Int.le_refl _)
  unfold x_acksDownF
  have h01 : ∀ j, j < GA.length → (ma 24 ((mi 17).toInt.toNat + j) = 0 ∨ ma 24 ((mi 17).toInt.toNat + j) = 1) ∧ ∀ i, i < 200 → ma 25 (200 * ((mi 17).toInt.toNat + j) + i) = 0 ∨ ma 25 (200 * ((mi 17).toInt.toNat + j) + i) = 1 := fun j hj => AE_01 (h4 j _ (List.getElem?_eq_getElem hj))
  by_cases c : (mi 17).toInt = 0
  · have e0 : mi 17 = 0 := Int32.toInt_inj.mp (by rw [c]; decide)
    have := dF_zero (f := mi 17) (mi := mi) (ma := ma) (n := GA.length) (by omega) (by omega) GA.length 0 (((mi 18).toInt * 1000 + 1000).toNat) (by omega) (by omega)
    rw [show nI 0 = (0 : Int32) by decide] at this
    rw [e0] at this ⊢
    refine ⟨ma, this, hfin ma (fun j hj => ?_) (fun k _ => rfl), fun k _ => rfl⟩
    rw [c, show (0 : Int).toNat + j = j by simp]
    exact ENT_refl
  · obtain ⟨a, x1, x2, x3⟩ := dF_go (f := mi 17) (mi := mi) (ma := ma) (f0 := (mi 17).toInt.toNat) (n := GA.length) (by omega) (by omega) (by omega) h01 GA.length 0 (((mi 18).toInt * 1000 + 1000).toNat) ma (by omega) (by omega) (fun j hj => by omega) (fun j _ => ENT_refl) (fun k _ => rfl)
    rw [show nI 0 = (0 : Int32) by decide, show (mi 17).toInt.toNat + 0 = (mi 17).toInt.toNat from rfl, ← nIof h1] at x1
    exact ⟨a, x1, hfin a x2 x3, x3⟩
