/-- flows, goals and windows are alike on both sides -/
def TY (n : Nat) (FX : Nat → Nat → Int32) (mi : Nat → Int32) (ma : Nat → Nat → Int32) : Prop := mi 32 = nI n ∧ (∀ j, j < n → ma 43 j = FX j 2) ∧ (∀ j, n ≤ j → ma 43 j = 0) ∧ ∀ j, j < n → ma 35 j = FX j 3
theorem TY_keep {n : Nat} {FX : Nat → Nat → Int32} {mi mi2 : Nat → Int32} {ma ma2 : Nat → Nat → Int32} (h : TY n FX mi ma) (e1 : mi2 32 = mi 32) (e2 : ma2 43 = ma 43) (e3 : ma2 35 = ma 35) : TY n FX mi2 ma2 := by
  unfold TY
  rw [e1, e2, e3]
  exact h
theorem isr_nI {j n : Nat} (hj : j < n) (hn : n ≤ 4) : ¬ isr (nI j) (nI n) = 0 := by
  have a : (nI j).toInt = (j : Int) := nI_toInt (by omega)
  have b : (nI n).toInt = (n : Int) := nI_toInt (by omega)
  have h1 : ¬ nI j < 0 := fun q => by
    have := Int32.lt_iff_toInt_lt.mp q
    rw [a, show (0 : Int32).toInt = 0 by decide] at this
    omega
  have h2 : ¬ nI n ≤ nI j := fun q => by
    have := Int32.le_iff_toInt_le.mp q
    rw [a, b] at this
    omega
  unfold isr
  rw [if_neg h1, if_neg h2]
  decide
theorem upd_id {g : Nat → Int32} {i : Nat} : upd g i (g i) = g := funext fun j => by
  show (if j = i then g i else g j) = g j
  by_cases e : j = i
  · rw [if_pos e, e]
  · rw [if_neg e]
theorem upd_ne {g : Nat → Int32} {i j : Nat} {v : Int32} (h : ¬ j = i) : upd g i v j = g j := if_neg h
theorem upd_at {g : Nat → Int32} {i : Nat} {v : Int32} : upd g i v i = v := if_pos rfl
theorem sum_le {x g : Int32} (hx : 0 ≤ x.toInt ∧ x.toInt ≤ 1000000) (hg : 1 ≤ g ∧ g ≤ 100000) : x ≤ 1000000 - g ↔ x + g ≤ 1000000 := by
  have g1 := Int32.le_iff_toInt_le.mp hg.1
  have g2 := Int32.le_iff_toInt_le.mp hg.2
  rw [show (1 : Int32).toInt = 1 by decide] at g1
  rw [show (100000 : Int32).toInt = 100000 by decide] at g2
  have k : (1000000 : Int32).toInt = 1000000 := by decide
  have a := ti_add (x := x + g) rfl (by omega) (by omega)
  have b := ti_sub (x := 1000000 - g) (a := 1000000) rfl (by omega) (by omega)
  rw [Int32.le_iff_toInt_le, Int32.le_iff_toInt_le, a, b, k]
  omega
theorem TY_send {n : Nat} {FX FX2 : Nat → Nat → Int32} {mi mi2 : Nat → Int32} {ma ma2 : Nat → Nat → Int32} {f g r1 r2 : Int32} (hY : TY n FX mi ma) (hn : n ≤ 4) (hB : MB mi ma) (hs : SND n FX f g r1 FX2) (hr : r2 = rsn (mi 32) (ma 43) f g) (h2 : ma2 43 = rsa (mi 32) (ma 43) f g) (e1 : mi2 32 = mi 32) (e3 : ma2 35 = ma 35) : TY n FX2 mi2 ma2 ∧ r1 = r2 := by
  obtain ⟨y1, y2, y3, y4⟩ := hY
  rw [y1] at hr h2
  rcases hs with ⟨s1, s2, s3⟩ | ⟨j, hj, s1, s2, s3, s4⟩
  · have a : rsn (nI n) (ma 43) f g = -1 ∧ rsa (nI n) (ma 43) f g = ma 43 := by
      unfold rsn rsa
      by_cases w : isr f (nI n) = 0
      · rw [if_pos w, if_pos w]; exact ⟨rfl, rfl⟩
      · rcases s3 with q | q
        · exact absurd q w
        · rw [if_neg w, if_neg w, if_pos q, if_pos q]; exact ⟨rfl, rfl⟩
    rw [a.1] at hr
    rw [a.2] at h2
    subst s2
    exact ⟨⟨e1.trans y1, fun j hj => by rw [h2]; exact y2 j hj, fun j hj => by rw [h2]; exact y3 j hj, fun j hj => by rw [e3]; exact y4 j hj⟩, s1.trans hr.symm⟩
  · have c : f.toNatClampNeg = j := by rw [s1]; exact nI_clamp (by omega)
    have w : ¬ isr f (nI n) = 0 := by rw [s1]; exact isr_nI hj hn
    have xr := MB_all hB j (by omega)
    have yj := y2 j hj
    rw [yj] at xr
    have q := sum_le xr (wi_in s2)
    have e5 : rsn (nI n) (ma 43) f g = ag (FX j 2) g := by
      unfold rsn ag
      rw [if_neg w, if_neg s2, c, yj]
      by_cases p : FX j 2 ≤ 1000000 - g
      · rw [if_pos p, if_pos (q.mp p)]
      · rw [if_neg p, if_neg (mt q.mpr p)]
    have e6 : rsa (nI n) (ma 43) f g = upd (ma 43) j (ag2 (FX j 2) g) := by
      unfold rsa ag2
      rw [if_neg w, if_neg s2, c, yj]
      by_cases p : FX j 2 ≤ 1000000 - g
      · rw [if_pos p, if_pos (q.mp p)]
      · rw [if_neg p, if_neg (mt q.mpr p), ← yj, upd_id]
    rw [e5] at hr
    rw [e6] at h2
    refine ⟨⟨e1.trans y1, fun i hi => ?_, fun i hi => ?_, fun i hi => ?_⟩, s3.trans hr.symm⟩
    · rw [h2, s4]
      by_cases z : i = j
      · rw [z, va_up_self]; exact upd_at.trans upd_at.symm
      · rw [va_up_ne _ _ z, upd_ne z]; exact y2 i hi
    · rw [h2, upd_ne (by omega)]; exact y3 i hi
    · rw [e3, s4]
      by_cases z : i = j
      · rw [z, va_up_self]; exact (y4 j hj).trans (upd_ne (by decide)).symm
      · rw [va_up_ne _ _ z]; exact y4 i hi
theorem TY_window {n : Nat} {FX FX2 : Nat → Nat → Int32} {mi mi2 : Nat → Int32} {ma ma2 : Nat → Nat → Int32} {f g r1 r2 : Int32} (hY : TY n FX mi ma) (hn : n ≤ 4) (hs : WND n FX f g r1 FX2) (hr : r2 = rwn (mi 32) (ma 35) f g) (h2 : ma2 35 = rwa (mi 32) (ma 35) f g) (e1 : mi2 32 = mi 32) (e3 : ma2 43 = ma 43) : TY n FX2 mi2 ma2 ∧ r1 = r2 := by
  obtain ⟨y1, y2, y3, y4⟩ := hY
  rw [y1] at hr h2
  rcases hs with ⟨s1, s2, s3⟩ | ⟨j, hj, s1, s2, s3, s4⟩
  · have a : rwn (nI n) (ma 35) f g = -1 ∧ rwa (nI n) (ma 35) f g = ma 35 := by
      unfold rwn rwa
      by_cases w : isr f (nI n) = 0
      · rw [if_pos w, if_pos w]; exact ⟨rfl, rfl⟩
      · rcases s3 with q | q
        · exact absurd q w
        · rw [if_neg w, if_neg w, if_pos q, if_pos q]; exact ⟨rfl, rfl⟩
    rw [a.1] at hr
    rw [a.2] at h2
    subst s2
    exact ⟨⟨e1.trans y1, fun j hj => by rw [e3]; exact y2 j hj, fun j hj => by rw [e3]; exact y3 j hj, fun j hj => by rw [h2]; exact y4 j hj⟩, s1.trans hr.symm⟩
  · have c : f.toNatClampNeg = j := by rw [s1]; exact nI_clamp (by omega)
    have w : ¬ isr f (nI n) = 0 := by rw [s1]; exact isr_nI hj hn
    have e5 : rwn (nI n) (ma 35) f g = FX j 3 := by
      unfold rwn
      rw [if_neg w, if_neg s2, c]
      exact y4 j hj
    have e6 : rwa (nI n) (ma 35) f g = upd (ma 35) j g := by
      unfold rwa
      rw [if_neg w, if_neg s2, c]
    rw [e5] at hr
    rw [e6] at h2
    refine ⟨⟨e1.trans y1, fun i hi => ?_, fun i hi => ?_, fun i hi => ?_⟩, s3.trans hr.symm⟩
    · rw [e3, s4]
      by_cases z : i = j
      · rw [z, va_up_self]; exact (y2 j hj).trans (upd_ne (by decide)).symm
      · rw [va_up_ne _ _ z]; exact y2 i hi
    · rw [e3]; exact y3 i hi
    · rw [h2, s4]
      by_cases z : i = j
      · rw [z, va_up_self]; exact upd_at.trans upd_at.symm
      · rw [va_up_ne _ _ z, upd_ne z]; exact y4 i hi
theorem TY_flow {n u : Nat} {FX FX2 : Nat → Nat → Int32} {mi mi2 : Nat → Int32} {ma ma2 : Nat → Nat → Int32} {k r1 r2 : Int32} (hY : TY n FX mi ma) (hn : n ≤ 4) (hs : FLW n k r1 u) (hX : (∀ j, j < n → FX2 j = FX j) ∧ (u = n + 1 → FX2 n 2 = 0 ∧ FX2 n 3 = 40)) (hr : r2 = rfw (mi 32) k) (h1 : mi2 32 = rfn (mi 32) k) (h2 : ma2 35 = rfm (mi 32) (ma 35) k) (e3 : ma2 43 = ma 43) : TY u FX2 mi2 ma2 ∧ r1 = r2 := by
  obtain ⟨y1, y2, y3, y4⟩ := hY
  rw [y1] at hr h1 h2
  have b : (nI n).toInt = (n : Int) := nI_toInt (by omega)
  have k4 : (4 : Int32).toInt = 4 := by decide
  have q4 : nI n = 4 ↔ n = 4 := by
    constructor
    · intro e
      have := congrArg Int32.toInt e
      rw [b, k4] at this
      omega
    · intro e
      rw [e]; decide
  rcases hs with ⟨s1, s2, s3⟩ | ⟨s1, s2, s3, s4⟩
  · have a : rfw (nI n) k = -1 ∧ rfn (nI n) k = nI n ∧ rfm (nI n) (ma 35) k = ma 35 := by
      unfold rfw rfn rfm
      by_cases w : nI n = 4
      · rw [if_pos w, if_pos w, if_pos w]; exact ⟨rfl, rfl, rfl⟩
      · rcases s3 with q | q
        · exact absurd (q4.mpr q) w
        · rw [if_neg w, if_neg w, if_neg w, if_pos q, if_pos q, if_pos q]; exact ⟨rfl, rfl, rfl⟩
    rw [a.1] at hr
    rw [a.2.1] at h1
    rw [a.2.2] at h2
    subst s2
    exact ⟨⟨h1, fun j hj => by rw [e3, hX.1 j hj]; exact y2 j hj, fun j hj => by rw [e3]; exact y3 j hj, fun j hj => by rw [h2, hX.1 j hj]; exact y4 j hj⟩, s1.trans hr.symm⟩
  · have w : ¬ nI n = 4 := fun q => by have := q4.mp q; omega
    have a : rfw (nI n) k = nI n ∧ rfn (nI n) k = nI n + 1 ∧ rfm (nI n) (ma 35) k = upd (ma 35) n 40 := by
      unfold rfw rfn rfm
      rw [if_neg w, if_neg w, if_neg w, if_neg s4, if_neg s4, if_neg s4, nI_clamp (by omega)]
      exact ⟨rfl, rfl, rfl⟩
    rw [a.1] at hr
    rw [a.2.1, nI_1] at h1
    rw [a.2.2] at h2
    subst s2
    have hz := hX.2 rfl
    refine ⟨⟨h1, fun i hi => ?_, fun i hi => ?_, fun i hi => ?_⟩, s1.trans hr.symm⟩
    · rw [e3]
      by_cases z : i = n
      · rw [z, hz.1]; exact y3 n (Nat.le_refl _)
      · rw [hX.1 i (by omega)]; exact y2 i (by omega)
    · rw [e3]; exact y3 i (by omega)
    · rw [h2]
      by_cases z : i = n
      · rw [z, hz.2]; exact upd_at
      · rw [upd_ne z, hX.1 i (by omega)]; exact y4 i (by omega)
theorem TY_ini {FX : Nat → Nat → Int32} : TY 0 FX ini zer := ⟨by decide, fun j hj => absurd hj (Nat.not_lt_zero _), fun j _ => rfl, fun j hj => absurd hj (Nat.not_lt_zero _)⟩
