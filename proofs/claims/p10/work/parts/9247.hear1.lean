/-- an ack of flow F, in the class's parcel and in the reference's rows -/
def AKq (F K : Nat) (e : A6) (ma : Nat → Nat → Int32) : Prop :=
  e.2.2.1 = ma 22 K ∧ e.2.2.2.2.1 = ma 23 K ∧ (e.2.2.2.1 = 0 ↔ ¬ ma 24 K = 0) ∧ (∀ i, i < 200 → ma 25 (200 * K + i) = b01 (bt4 (rowf e.2.2.2.2.2) ((ma 22 K).toInt.toNat + i))) ∧ ma 25 (200 * K) = 0 ∧ (∀ i : Nat, i < 200 → ¬ ma 25 (200 * K + i) = 0 → (ma 22 K).toInt + i < (ma 46 F).toInt) ∧ (ma 22 K).toInt ≤ (ma 46 F).toInt
theorem BQ_learn {F V L : Nat} {row : R4} {bv : Nat → Int32} {f g : Nat → Int64} {a : Nat → Nat → Int32} (eV : a 44 F = nI V) (eH : a 46 F = nI (V + L)) (hV : V < 2 ^ 30) (hL : L ≤ 200) (hb : ∀ i, i < 200 → a 71 (200 * F + i) = b01 (bt4 (rowf row) (V + i))) (h0 : a 71 (200 * F) = 0) (hm : ∀ i : Nat, i < 200 → ¬ a 71 (200 * F + i) = 0 → (a 44 F).toInt + i < (a 46 F).toInt) : ∃ y f2, xc_blearnP bv f g (a 44 F) (a 46 F) row = (upd bv 2 y, f2, g) ∧ (∀ i, i < 200 → (bt4 f2 ((a 44 F).toInt.toNat + i) = true ↔ ¬ a 71 (200 * F + i) = 0)) ∧ LBq (fun i => a 71 (200 * F + i)) (a 44 F).toInt.toNat 200 (upd bv 2 y 2) := by
  have tV : (a 44 F).toInt = V := by rw [eV]; exact nI_toInt (by omega)
  have tH : (a 46 F).toInt = ((V + L : Nat) : Int) := by rw [eH]; exact nI_toInt (by omega)
  have eN : (a 44 F).toInt.toNat = V := by rw [tV]; rfl
  obtain ⟨y, f2, x1, x2, x3, x4⟩ := learn_eq (B := fun i => a 71 (200 * F + i)) (U := V) (L := L) (row := row) (bv := bv) (f := f) (g := g) (fun i hi => by
    show _ ↔ ¬ a 71 (200 * F + i) = 0
    rw [hb i (by omega)]
    exact b01_iff) h0 hV hL
  have hz : ∀ i, L ≤ i → i < 200 → (fun i => a 71 (200 * F + i)) i = 0 := fun i h1 h2 => by
    show a 71 (200 * F + i) = 0
    by_cases w : a 71 (200 * F + i) = 0
    · exact w
    · have := hm i h2 w
      omega
  refine ⟨y, f2, by rw [eV, eH]; exact x1, fun i hi => ?_, fun i hi hbi => ?_⟩
  · rw [eN, x4, hb i hi]
    exact b01_iff
  · rw [upd_a, eN, mk_ext (L := L) hL hz]
    rcases Nat.lt_or_ge i L with w | w
    · exact x2 i w hbi
    · rw [mk_top (by omega)]
      refine ⟨fun z => ?_, fun z => by omega⟩
      have := Int32.lt_iff_toInt_lt.mp z
      rw [nI_toInt (by omega)] at this
      omega
theorem h224_eq {F : Nat} (hF : F < 4) {kk i3 i4 i5 : Int32} {mi : Nat → Int32} {b : Nat → Nat → Int32} : x_heard_224 (nI F) kk mi b i3 i4 i5 = x_heard_255 (nI F) kk mi (if ¬ b 60 F ≤ 0 ∧ b 45 F = b 44 F then va_up b 61 (upd (b 61) F (-1)) else b) i3 i4 i5 := by
  unfold x_heard_224
  simp only [bd_eq, nI_clamp (show F < 2 ^ 31 by omega)]
  by_cases c : b 60 F ≤ 0
  · rw [if_pos c, if_neg (show ¬ (¬ b 60 F ≤ 0 ∧ b 45 F = b 44 F) from fun w => w.1 c)]
  · rw [if_neg c]
    by_cases d : b 45 F = b 44 F
    · rw [if_pos d, if_pos (show ¬ b 60 F ≤ 0 ∧ b 45 F = b 44 F from ⟨c, d⟩)]
    · rw [if_neg d, if_neg (show ¬ (¬ b 60 F ≤ 0 ∧ b 45 F = b 44 F) from fun w => d w.2)]
theorem h74_eq {F K : Nat} (hF : F < 4) (hK : K < 6000) {A d : Int32} {mi : Nat → Int32} {ma : Nat → Nat → Int32} : x_heard_74 (nI F) (nI K) mi ma A d = if A - ma 44 F ≤ 0 then x_heard_143 (nI F) (nI K) 201 mi (setc ma F (upd (col ma F) 60 (ma 23 K))) A d (A - ma 44 F) 0 else x_heard_143 (nI F) (nI K) 201 mi (setc ma F (upd (upd (upd (v_measures A mi (col ma F)).1 44 A) 45 (if A ≤ (v_measures A mi (col ma F)).1 45 then (v_measures A mi (col ma F)).1 45 else A)) 60 (setc ma F (v_measures A mi (col ma F)).1 23 K))) A d (A - ma 44 F) 0 := by
  have hF2 : (nI F).toNatClampNeg = F := nI_clamp (by omega)
  have hK2 : (nI K).toNatClampNeg = K := nI_clamp (by omega)
  unfold x_heard_74 x_heard_128
  simp only [bd_eq, hF2, hK2, x_measures_c hF, bc_lf, va_setc, col_setc, setc_setc]
  by_cases c : A - ma 44 F ≤ 0
  · rw [if_pos c, if_pos c]
  · rw [if_neg c, if_neg c]
    have e : upd (v_measures A mi (col ma F)).1 44 A 45 = (v_measures A mi (col ma F)).1 45 := upd_b (by decide)
    have k23 : ∀ (w : Nat → Int32) (x y : Int32), setc ma F (upd (upd w 44 x) 45 y) 23 K = setc ma F w 23 K := by
      intro w x y
      by_cases z : K = F
      · rw [z, setc_at, setc_at, upd_b (by decide), upd_b (by decide)]
      · rw [setc_ne z, setc_ne z]
    have k45 : setc ma F (upd (v_measures A mi (col ma F)).1 44 A) 45 F = (v_measures A mi (col ma F)).1 45 := by rw [setc_at, e]
    simp only [k45, k23]
    by_cases c2 : A ≤ (v_measures A mi (col ma F)).1 45
    · rw [if_pos c2, if_pos c2]
    · rw [if_neg c2, if_neg c2]
theorem xc_sgoOn_eq {n0 k0 g0 n1 t : Int32} {sv tv bv cv : Nat → Int32} {f g : Nat → Int64} : xc_sgoOn n0 k0 g0 sv tv bv cv f g n1 t = (upd (upd sv 3 (sv 3 + n1)) 4 (if sv 3 + n1 ≤ sv 4 then sv 4 else sv 3 + n1), (if (if sv 3 + n1 ≤ sv 4 then sv 4 else sv 3 + n1) ≤ sv 3 + n1 then upd (xc_ttold tv (sv 3 + n1) t) 3 (-1) else upd (xc_ttold tv (sv 3 + n1) t) 3 (t + xc_ttold tv (sv 3 + n1) t 0)), (if k0 = 3 ∧ ¬ sv 11 = 0 then (xc_bgoOn bv f g (sv 3) (sv 3 + n1)).1 else bv), cv, (if k0 = 3 ∧ ¬ sv 11 = 0 then (xc_bgoOn bv f g (sv 3) (sv 3 + n1)).2.1 else f), (if k0 = 3 ∧ ¬ sv 11 = 0 then (xc_bgoOn bv f g (sv 3) (sv 3 + n1)).2.2 else g)) := by
  unfold xc_sgoOn xc_sgoOn_35 xc_tset xc_tput
  simp only [bd_eq, xc_byBoard_eq]
  simp (decide := true) only [upd_a, upd_b, ne_eq, not_false_eq_true, mx_eq]
  by_cases c : k0 = 3 ∧ ¬ sv 11 = 0
  · simp (decide := true) only [if_pos c, ↓reduceIte]
    by_cases d : (if sv 3 + n1 ≤ sv 4 then sv 4 else sv 3 + n1) ≤ sv 3 + n1
    · simp only [if_pos d]
    · simp only [if_neg d]
  · simp (decide := true) only [if_neg c, ↓reduceIte]
    by_cases d : (if sv 3 + n1 ≤ sv 4 then sv 4 else sv 3 + n1) ≤ sv 3 + n1
    · simp only [if_pos d]
    · simp only [if_neg d]
