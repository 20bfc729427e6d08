/-- what a method of one sender leaves as it was -/
def SFR (F : Nat) (mi : Nat → Int32) (ma : Nat → Nat → Int32) (m : Nat → Int32) (a : Nat → Nat → Int32) : Prop := (∀ k, k ∉ ([5, 6, 26, 27, 28, 30, 73] : List Nat) → m k = mi k) ∧ (∀ k i, k ∉ ([7, 8, 9, 31] : List Nat) → (k < 42 ∨ 72 < k ∨ (k ≤ 70 ∧ i ≠ F) ∨ (k = 71 ∧ i / 200 ≠ F) ∨ (k = 72 ∧ i / 512 ≠ F)) → a k i = ma k i) ∧ (ma 46 F).toInt ≤ (a 46 F).toInt
theorem SFR_refl {F : Nat} {mi : Nat → Int32} {ma : Nat → Nat → Int32} : SFR F mi ma mi ma := ⟨fun _ _ => rfl, fun _ _ _ _ => rfl, Int.le_refl _⟩
theorem SFR_trans {F : Nat} {mi m m2 : Nat → Int32} {ma a a2 : Nat → Nat → Int32} (h : SFR F mi ma m a) (h2 : SFR F m a m2 a2) : SFR F mi ma m2 a2 := ⟨fun k hk => (h2.1 k hk).trans (h.1 k hk), fun k i hk hi => (h2.2.1 k i hk hi).trans (h.2.1 k i hk hi), Int.le_trans h.2.2 h2.2.2⟩
theorem SFR_setc {F : Nat} {mi : Nat → Int32} {ma : Nat → Nat → Int32} {u : Nat → Int32} (h : ∀ k, k < 42 ∨ 70 < k → u k = ma k F) (h46 : (ma 46 F).toInt ≤ (u 46).toInt) : SFR F mi ma mi (setc ma F u) := ⟨fun _ _ => rfl, fun k i hk hi => by
  by_cases e : i = F
  · subst e
    rw [setc_at]
    exact h k (by omega)
  · exact setc_ne e, by rw [setc_at]; exact h46⟩
theorem SFR_c {F : Nat} {mi : Nat → Int32} {ma : Nat → Nat → Int32} {u : Nat → Int32} {l : List Nat} (h : UF l (col ma F) u) (hl : ∀ k, k ∈ l → 42 ≤ k ∧ k ≤ 70 ∧ k ≠ 46) : SFR F mi ma mi (setc ma F u) := SFR_setc (fun k hk => h k (fun w => by have := hl k w; omega)) (by rw [h 46 (fun w => by have := hl 46 w; omega)]; exact Int.le_refl _)
theorem SFR_up {F k : Nat} {mi : Nat → Int32} {ma : Nat → Nat → Int32} {v : Int32} (h1 : 42 ≤ k) (h2 : k ≤ 70) (h3 : k ≠ 46) : SFR F mi ma mi (va_up ma k (upd (ma k) F v)) := ⟨fun _ _ => rfl, fun j i hj hi => by
  by_cases e : j = k
  · subst e
    rw [va_up_self, upd_b (by omega)]
  · rw [va_up_ne _ _ e], by rw [va_up_ne _ _ (fun e => h3 e.symm)]; exact Int.le_refl _⟩
theorem SFR_71 {F : Nat} {mi : Nat → Int32} {ma : Nat → Nat → Int32} {x : Nat → Int32} (h : ∀ i, i / 200 ≠ F → x i = ma 71 i) : SFR F mi ma mi (va_up ma 71 x) := ⟨fun _ _ => rfl, fun j i hj hi => by
  by_cases e : j = 71
  · subst e
    rw [va_up_self]
    exact h i (by omega)
  · rw [va_up_ne _ _ e], by rw [va_up_ne _ _ (by decide)]; exact Int.le_refl _⟩
theorem SFR_72 {F : Nat} {mi : Nat → Int32} {ma : Nat → Nat → Int32} {x : Nat → Int32} (h : ∀ i, i / 512 ≠ F → x i = ma 72 i) : SFR F mi ma mi (va_up ma 72 x) := ⟨fun _ _ => rfl, fun j i hj hi => by
  by_cases e : j = 72
  · subst e
    rw [va_up_self]
    exact h i (by omega)
  · rw [va_up_ne _ _ e], by rw [va_up_ne _ _ (by decide)]; exact Int.le_refl _⟩
theorem SFR_73 {F : Nat} {mi : Nat → Int32} {ma : Nat → Nat → Int32} {x : Int32} : SFR F mi ma (upd mi 73 x) ma := ⟨fun k hk => upd_b (fun e => hk (by rw [e]; decide)), fun _ _ _ _ => rfl, Int.le_refl _⟩
theorem SFR_PK {F : Nat} {mi m : Nat → Int32} {ma a : Nat → Nat → Int32} (h : PK mi m ma a) : SFR F mi ma m a := ⟨fun k hk => h.1 k (fun w => hk (by revert w; exact sub_of (by decide) k)), fun k i hk _ => congrFun (h.2 k hk) i, by rw [h.2 46 (by decide)]; exact Int.le_refl _⟩
theorem col_up {ma : Nat → Nat → Int32} {F k : Nat} {v : Int32} : col (va_up ma k (upd (ma k) F v)) F = upd (col ma F) k v := by
  funext j
  unfold col
  by_cases e : j = k
  · subst e
    rw [va_up_self, upd_a, upd_a]
  · rw [va_up_ne _ _ e, upd_b e]
theorem SQ_congr {sv tv cv u u2 : Nat → Int32} {k0 g0 : Int32} (h : SQ sv tv cv k0 g0 u) (e : ∀ k, 42 ≤ k → k ≤ 70 → u2 k = u k) : SQ sv tv cv k0 g0 u2 := by
  unfold SQ at h ⊢
  rw [e 42 (by decide) (by decide), e 43 (by decide) (by decide), e 44 (by decide) (by decide), e 45 (by decide) (by decide), e 46 (by decide) (by decide), e 47 (by decide) (by decide), e 68 (by decide) (by decide), e 48 (by decide) (by decide), e 60 (by decide) (by decide), e 53 (by decide) (by decide), e 54 (by decide) (by decide), e 55 (by decide) (by decide), e 57 (by decide) (by decide), e 58 (by decide) (by decide), e 59 (by decide) (by decide), e 62 (by decide) (by decide), e 49 (by decide) (by decide), e 50 (by decide) (by decide), e 51 (by decide) (by decide), e 61 (by decide) (by decide), e 69 (by decide) (by decide), e 70 (by decide) (by decide), e 63 (by decide) (by decide), e 64 (by decide) (by decide), e 67 (by decide) (by decide), e 65 (by decide) (by decide), e 66 (by decide) (by decide)]
  exact h
theorem upd_comm {f : Nat → Int32} {j k : Nat} {a b : Int32} (h : j ≠ k) : upd (upd f j a) k b = upd (upd f k b) j a := by
  funext i
  by_cases e : i = k
  · subst e
    rw [upd_a, upd_b (fun w => h w.symm), upd_a]
  · rw [upd_b e]
    by_cases e2 : i = j
    · subst e2
      rw [upd_a, upd_a]
    · rw [upd_b e2, upd_b e2, upd_b e]
/-- the methods of one flow, on its column -/
theorem x_opens_c {F : Nat} (hF : F < 4) {to : Int32} {mi : Nat → Int32} {ma : Nat → Nat → Int32} : x_opens (nI F) to mi ma = (mi, setc ma F (v_opens to mi (col ma F)).1, 0) := by
  have := x_opens_v (nI F) to F (nI_clamp (by omega)) mi ma (col ma F)
  rw [setc_col] at this
  rw [this, v_opens_eq]
  rfl
theorem x_doubles_c {F : Nat} (hF : F < 4) {mi : Nat → Int32} {ma : Nat → Nat → Int32} : x_doubles (nI F) mi ma = (mi, setc ma F (v_doubles mi (col ma F)).1, 0) := by
  have := x_doubles_v (nI F) F (nI_clamp (by omega)) mi ma (col ma F)
  rw [setc_col] at this
  rw [this, v_doubles_eq]
  rfl
theorem x_loses_c {F : Nat} (hF : F < 4) {mi : Nat → Int32} {ma : Nat → Nat → Int32} : x_loses (nI F) mi ma = lf mi ma F (v_loses mi (col ma F)) := by
  have := x_loses_v (nI F) F (nI_clamp (by omega)) mi ma (col ma F)
  rw [setc_col] at this
  exact this
theorem x_measures_c {F : Nat} (hF : F < 4) {a : Int32} {mi : Nat → Int32} {ma : Nat → Nat → Int32} : x_measures (nI F) a mi ma = lf mi ma F (v_measures a mi (col ma F)) := by
  have := x_measures_v (nI F) a F (nI_clamp (by omega)) mi ma (col ma F)
  rw [setc_col] at this
  exact this
theorem x_grows_c {F : Nat} (hF : F < 4) {mi : Nat → Int32} {ma : Nat → Nat → Int32} : x_grows (nI F) mi ma = lf mi ma F (v_grows mi (col ma F)) := by
  have := x_grows_v (nI F) F (nI_clamp (by omega)) mi ma (col ma F)
  rw [setc_col] at this
  exact this
theorem x_mayNext_c {F : Nat} (hF : F < 4) {mi : Nat → Int32} {ma : Nat → Nat → Int32} : x_mayNext (nI F) mi ma = (mi, ma, if ma 43 F ≤ ma 45 F then 0 else if ma 44 F + ma 60 F ≤ ma 45 F then 0 else 1) := by
  unfold x_mayNext
  simp only [bd_eq]
  rw [nI_clamp (show F < 2 ^ 31 by omega)]
  by_cases h : ma 43 F ≤ ma 45 F
  · rw [if_pos h, if_pos h]
  · rw [if_neg h, if_neg h]
    split <;> rfl
theorem x_sendsOne_c {F : Nat} (hF : F < 4) {s : Int32} {mi m1 : Nat → Int32} {ma a1 : Nat → Nat → Int32} {r : Int32} (hp : x_puts (nI F) s 0 mi ma = (m1, a1, r)) : x_sendsOne (nI F) s mi ma = (m1, setc a1 F (v_one s (m1 4) (col a1 F)), 0) := x_sendsOne_v (nI_clamp (by omega)) (by rw [hp, setc_col])
/-- loses: what it changes -/
theorem v_loses_UF {mi u : Nat → Int32} : UF [48, 63, 67] u (v_loses mi u).1 := by
  unfold v_loses
  simp only [bd_eq]
  intro k hk
  have n1 : k ≠ 48 := fun e => hk (by rw [e]; decide)
  have n2 : k ≠ 63 := fun e => hk (by rw [e]; decide)
  have n3 : k ≠ 67 := fun e => hk (by rw [e]; decide)
  repeat' split
  all_goals simp only [upd_b n1, upd_b n2, upd_b n3]
theorem v_opens_UF {to : Int32} {mi u : Nat → Int32} : UF [47, 68] u (v_opens to mi u).1 := by
  rw [v_opens_eq]
  exact UF_upd (UF_upd UF_refl (by decide)) (by decide)
theorem v_doubles_UF {mi u : Nat → Int32} : UF [49] u (v_doubles mi u).1 := by
  rw [v_doubles_eq]
  exact UF_upd UF_refl (by decide)
def lossC (k0 c6 s4 s3 : Int32) (cv : Nat → Int32) : (Nat → Int32) × Int32 := if k0 = 2 then xc_closs cv c6 else (cv, if 2048 < (s4 - s3) * 512 then (s4 - s3) * 512 else 2048)
theorem xc_loss_eq {n0 k0 g0 : Int32} {sv tv bv cv : Nat → Int32} {f g : Nat → Int64} : xc_loss n0 k0 g0 sv tv bv cv f g = (sv, tv, bv, (lossC k0 (sv 6) (sv 4) (sv 3) cv).1, f, g, (lossC k0 (sv 6) (sv 4) (sv 3) cv).2) := by
  unfold xc_loss lossC
  simp only [bd_eq]
  split <;> rfl
theorem SQ_lossC {k0 g0 : Int32} {sv tv cv u mi : Nat → Int32} (h : SQ sv tv cv k0 g0 u) : SQ (upd sv 8 (lossC k0 (sv 6) (sv 4) (sv 3) cv).2) tv (lossC k0 (sv 6) (sv 4) (sv 3) cv).1 k0 g0 (v_loses mi u).1 := by
  obtain ⟨cv2, r, h1, h2⟩ := SQ_loss (n0 := 0) (bv := sv) (f := fun _ => 0) (g := fun _ => 0) (mi := mi) h
  rw [xc_loss_eq] at h1
  simp only [Prod.mk.injEq, true_and] at h1
  rw [h1.1, h1.2]
  exact h2
