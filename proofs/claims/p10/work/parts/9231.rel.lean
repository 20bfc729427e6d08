/-- what else holds of a sender's column, at tick t; what is measured was sent before T -/
def SI (T : Int) (t : Int32) (u : Nat → Int32) : Prop :=
  (0 ≤ (u 50).toInt ∧ (u 50).toInt ≤ 800000000) ∧ (u 52 = 0 ↔ u 50 = 0) ∧ (u 69 = -1 ∨ (0 ≤ (u 70).toInt ∧ (u 70).toInt < T)) ∧ (u 67 = -1 ∨ (0 ≤ (u 67).toInt ∧ (u 67).toInt ≤ t.toInt)) ∧ (0 ≤ (u 64).toInt ∧ (u 64).toInt ≤ 16384) ∧ (0 ≤ (u 49).toInt ∧ (u 49).toInt ≤ 60000) ∧
  ((u 44).toInt ≤ (u 45).toInt ∧ (u 45).toInt ≤ (u 46).toInt ∧ (u 55).toInt ≤ (u 46).toInt) ∧
  (u 42 = 3 → (u 45 = u 46 ∨ (u 54 = 0 ∧ u 55 = u 46 ∧ (u 44).toInt < (u 55).toInt) ∨ (u 54 = 0 ∧ u 45 = u 44 ∧ (u 46).toInt = (u 45).toInt + 1)) ∧ (¬ u 54 = 0 → u 45 = u 46 ∧ (u 56).toInt ≤ (u 44).toInt ∧ (u 44).toInt < (u 55).toInt ∧ (u 55).toInt ≤ (u 56).toInt + 200 ∧ 0 ≤ (u 56).toInt))
theorem SI_congr {T : Int} {t : Int32} {u u2 : Nat → Int32} (h : SI T t u) (e : ∀ k, 42 ≤ k → k ≤ 70 → u2 k = u k) : SI T t u2 := by
  unfold SI at h ⊢
  rw [e 50 (by decide) (by decide), e 52 (by decide) (by decide), e 69 (by decide) (by decide), e 70 (by decide) (by decide), e 67 (by decide) (by decide), e 64 (by decide) (by decide), e 49 (by decide) (by decide), e 44 (by decide) (by decide), e 45 (by decide) (by decide), e 46 (by decide) (by decide), e 55 (by decide) (by decide), e 42 (by decide) (by decide), e 54 (by decide) (by decide), e 56 (by decide) (by decide)]
  exact h
/-- what was sent again in this recovery: the class's marks, the reference's row -/
def RSq (F : Nat) (g : Nat → Int64) (ma : Nat → Nat → Int32) : Prop :=
  (∀ m : Nat, (ma 44 F).toInt ≤ m → (m : Int) < (ma 44 F).toInt + 256 → (bt4 g m = true ↔ ((m : Int) < (ma 46 F).toInt ∧ ¬ ma 72 (512 * F + m % 512) = 0))) ∧ ∀ m : Nat, (ma 46 F).toInt ≤ m → (m : Int) < (ma 56 F).toInt + 512 → ma 72 (512 * F + m % 512) = 0
/-- the boards of a SACK sender -/
def BQ (F : Nat) (bv : Nat → Int32) (f g : Nat → Int64) (ma : Nat → Nat → Int32) : Prop :=
  (∀ i, i < 200 → (bt4 f ((ma 44 F).toInt.toNat + i) = true ↔ ¬ ma 71 (200 * F + i) = 0)) ∧ ma 71 (200 * F) = 0 ∧ (∀ i : Nat, i < 200 → ¬ ma 71 (200 * F + i) = 0 → (ma 44 F).toInt + i < (ma 46 F).toInt) ∧ LBq (fun i => ma 71 (200 * F + i)) (ma 44 F).toInt.toNat 200 (bv 2) ∧ (¬ ma 54 F = 0 → bv 3 = ma 56 F ∧ RSq F g ma)
/-- a sender and its column -/
def FQ (F : Nat) (T : Int) (k0 g0 : Int32) (sv tv bv cv : Nat → Int32) (f g : Nat → Int64) (mi : Nat → Int32) (ma : Nat → Nat → Int32) : Prop := SQ sv tv cv k0 g0 (col ma F) ∧ SI T (mi 4) (col ma F) ∧ (k0 = 3 → BQ F bv f g ma)
/-- what is on the link was sent -/
def NL (go : Option S4) (gq : List S3) (ma : Nat → Nat → Int32) : Prop := (∀ c, go = some c → (c.2.2.1).toInt < (ma 46 c.2.1.toNatClampNeg).toInt ∧ (c.2.2.2 = 0 ∨ c.2.2.2 = 1)) ∧ ∀ e, e ∈ gq → (e.2.1).toInt < (ma 46 e.1.toNatClampNeg).toInt ∧ (e.2.2 = 0 ∨ e.2.2 = 1)
def RR (ov tf : Nat → Int32) (go : Option S4) (gq : List S3) (mi : Nat → Int32) (ma : Nat → Nat → Int32) : Prop := RQ ov tf go gq mi ma ∧ gq.length ≤ 100 ∧ NL go gq ma
theorem mk_ext {B : Nat → Int32} {k L : Nat} : ∀ {n : Nat}, L ≤ n → (∀ i, L ≤ i → i < n → B i = 0) → mk B k n = mk B k L
  | 0, h, _ => by rw [show L = 0 by omega]
  | n + 1, h, hz => by
    by_cases e : L = n + 1
    · rw [e]
    · have e1 : mk B k (n + 1) = mk B k n + (if k ≤ n ∧ ¬ B n = 0 then 1 else 0) := rfl
      rw [e1, mk_ext (show L ≤ n by omega) (fun i h1 h2 => hz i h1 (by omega)), if_neg (show ¬ (k ≤ n ∧ ¬ B n = 0) from fun w => w.2 (hz n (by omega) (by omega)))]
      rfl
theorem nIof {x : Int32} (h : 0 ≤ x.toInt) : x = nI x.toInt.toNat := by
  apply Int32.toInt_inj.mp
  have := x.toInt_lt
  rw [nI_toInt (by omega)]
  omega
theorem BQ_CB {F : Nat} {bv : Nat → Int32} {f g : Nat → Int64} {ma : Nat → Nat → Int32} (h : BQ F bv f g ma) (hr : ¬ ma 54 F = 0) (h0 : 0 ≤ (ma 44 F).toInt) (h1 : (ma 44 F).toInt ≤ 1000001) (hh : (ma 44 F).toInt ≤ (ma 46 F).toInt) (hh2 : (ma 46 F).toInt ≤ (ma 44 F).toInt + 200) (hb : (ma 56 F).toInt ≤ (ma 44 F).toInt) : CB (fun i => ma 71 (200 * F + i)) (fun i => ma 72 (512 * F + ((ma 44 F).toInt.toNat + i) % 512)) (ma 44 F).toInt.toNat ((ma 46 F).toInt - (ma 44 F).toInt).toNat (ma 56 F) bv f g := by
  obtain ⟨hf, hz, hm, hl, hrec⟩ := h
  obtain ⟨h3, hs, _⟩ := hrec hr
  refine ⟨fun i hi => hf i (by omega), fun i hi => ?_, fun i hi hb => ?_, h3, fun i hi e => ?_⟩
  · have := hs ((ma 44 F).toInt.toNat + i) (by omega) (by omega)
    rw [this]
    exact ⟨fun w => w.2, fun w => ⟨by omega, w⟩⟩
  · rw [hl i (by omega) hb, mk_ext (L := ((ma 46 F).toInt - (ma 44 F).toInt).toNat) (by omega)]
    intro j hj1 hj2
    by_cases q : ma 71 (200 * F + j) = 0
    · exact q
    · have := hm j hj2 q
      omega
  · have e2 := congrArg Int32.toInt e
    rw [nI_toInt (by omega)] at e2
    rw [show i = 0 by omega]
    exact hz
def AG (u u2 : Nat → Int32) : Prop := ∀ k, 42 ≤ k → k ≤ 70 → u2 k = u k
theorem AG_refl {u : Nat → Int32} : AG u u := fun _ _ _ => rfl
theorem AG_upd {u u2 : Nat → Int32} {k : Nat} {v : Int32} (h : AG u u2) : AG (upd u k v) (upd u2 k v) := fun j h1 h2 => by
  by_cases e : j = k
  · rw [e, upd_a, upd_a]
  · rw [upd_b e, upd_b e, h j h1 h2]
theorem v_tim_AG {t : Int32} {u u2 : Nat → Int32} (h : AG u u2) : AG (v_tim t u) (v_tim t u2) := by
  unfold v_tim
  rw [h 61 (by decide) (by decide), h 49 (by decide) (by decide)]
  by_cases c : u 61 = -1
  · rw [if_pos c, if_pos c]
    exact AG_upd h
  · rw [if_neg c, if_neg c]
    exact h
theorem v_one_AG {s t : Int32} {u u2 : Nat → Int32} (h : AG u u2) : AG (v_one s t u) (v_one s t u2) := by
  unfold v_one
  rw [h 46 (by decide) (by decide), h 69 (by decide) (by decide), h 59 (by decide) (by decide)]
  by_cases c : u 46 ≤ s
  · rw [if_pos c, if_pos c]
    by_cases d : u 69 = -1
    · rw [if_pos d, if_pos d]
      exact v_tim_AG (AG_upd (AG_upd (AG_upd h)))
    · rw [if_neg d, if_neg d]
      exact v_tim_AG (AG_upd h)
  · rw [if_neg c, if_neg c]
    by_cases d : u 69 = s
    · rw [if_pos d, if_pos d]
      exact v_tim_AG (AG_upd (AG_upd h))
    · rw [if_neg d, if_neg d]
      exact v_tim_AG (AG_upd h)
theorem v_tim_UF {t : Int32} {u : Nat → Int32} : UF [61] u (v_tim t u) := by
  unfold v_tim
  split
  · exact UF_upd UF_refl (by decide)
  · exact UF_refl
theorem v_one_UF {s t : Int32} {u : Nat → Int32} : UF [46, 59, 61, 69, 70] u (v_one s t u) := by
  have hm : ∀ k, k ∈ ([61] : List Nat) → k ∈ ([46, 59, 61, 69, 70] : List Nat) := sub_of (by decide)
  unfold v_one
  split
  · split
    · exact UF_trans (UF_upd (UF_upd (UF_upd UF_refl (by decide)) (by decide)) (by decide)) (UF_mono v_tim_UF hm)
    · exact UF_trans (UF_upd UF_refl (by decide)) (UF_mono v_tim_UF hm)
  · split
    · exact UF_trans (UF_upd (UF_upd UF_refl (by decide)) (by decide)) (UF_mono v_tim_UF hm)
    · exact UF_trans (UF_upd UF_refl (by decide)) (UF_mono v_tim_UF hm)
theorem v_one_46 {s t : Int32} {u : Nat → Int32} : v_one s t u 46 = if u 46 ≤ s then s + 1 else u 46 := by
  unfold v_one
  have h : ∀ w : Nat → Int32, v_tim t w 46 = w 46 := fun w => v_tim_UF 46 (by decide)
  split
  · split
    · rw [h]
      simp (decide := true) only [upd_a, upd_b, ne_eq, not_false_eq_true]
    · rw [h, upd_a]
  · split
    · rw [h]
      simp (decide := true) only [upd_a, upd_b, ne_eq, not_false_eq_true]
    · rw [h, upd_b (by decide)]
theorem setc_keep {a : Nat → Nat → Int32} {F k : Nat} {u : Nat → Int32} {l : List Nat} (h : UF l (col a F) u) (hk : k ∉ l) : setc a F u k = a k := by
  funext i
  by_cases e : i = F
  · subst e
    rw [setc_at]
    exact h k hk
  · exact setc_ne e
/-- what a launch puts on the link -/
theorem launch_mem {ov tf : Nat → Int32} {go : Option S4} {gq : List S3} {n1 n2 n3 n4 : Int32} : (∀ c, (xc_launch ov go gq tf n1 n2 n3 n4).2.2.1 = some c → go = some c ∨ c.2 = (n1, n2, n3)) ∧ (∀ e, e ∈ (xc_launch ov go gq tf n1 n2 n3 n4).2.2.2 → e ∈ gq ∨ e = (n1, n2, n3)) := by
  rw [xc_launch_eq]
  by_cases h : xc_place ov tf (ov 11) = -1
  · rw [if_pos h]
    cases go with
    | none =>
      refine ⟨fun c hc => Or.inr ?_, fun e he => Or.inl he⟩
      have := Option.some.inj hc
      rw [← this]
    | some x =>
      show (∀ c, (if nI gq.length < ov 1 then _ else _ : (Nat → Int32) × (Nat → Int32) × Option S4 × List S3).2.2.1 = some c → _) ∧ (∀ e, e ∈ (if nI gq.length < ov 1 then _ else _ : (Nat → Int32) × (Nat → Int32) × Option S4 × List S3).2.2.2 → _)
      by_cases h2 : nI gq.length < ov 1
      · rw [if_pos h2]
        refine ⟨fun c hc => Or.inl hc, fun e he => ?_⟩
        rcases List.mem_append.mp he with w | w
        · exact Or.inl w
        · exact Or.inr (List.mem_singleton.mp w)
      · rw [if_neg h2]
        exact ⟨fun c hc => Or.inl hc, fun e he => Or.inl he⟩
  · rw [if_neg h]
    exact ⟨fun c hc => Or.inl hc, fun e he => Or.inl he⟩
theorem launch_len {ov tf : Nat → Int32} {go : Option S4} {gq : List S3} {n1 n2 n3 n4 : Int32} (hq : gq.length ≤ 100) (h1 : (ov 1).toInt ≤ 100) : (xc_launch ov go gq tf n1 n2 n3 n4).2.2.2.length ≤ 100 := by
  rw [xc_launch_eq]
  by_cases h : xc_place ov tf (ov 11) = -1
  · rw [if_pos h]
    cases go with
    | none => exact hq
    | some x =>
      show (if nI gq.length < ov 1 then _ else _ : (Nat → Int32) × (Nat → Int32) × Option S4 × List S3).2.2.2.length ≤ 100
      by_cases h2 : nI gq.length < ov 1
      · rw [if_pos h2]
        have := Int32.lt_iff_toInt_lt.mp h2
        rw [nI_toInt (by omega)] at this
        rw [List.length_append]
        show gq.length + 1 ≤ 100
        omega
      · rw [if_neg h2]
        exact hq
  · rw [if_neg h]
    exact hq
