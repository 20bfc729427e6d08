/-! what became of the road between two moments: parcels made, parcels in the hand, dues that joined -/
def on1 (ol : Option Nat) : Nat := match ol with
  | none => 0
  | some _ => 1
def tot (xl : Nat → List Nat) (ol : Option Nat) : Nat := (xl 0).length + (xl 1).length + (xl 2).length + (xl 3).length + on1 ol
abbrev dz (pi : Nat → Nat → Int32) (xs : List Nat) : List Int32 := xs.map (pi 0)
def Srt (l : List Int32) : Prop := l.Pairwise (fun a b => a ≤ b)
def QQ (L : List Nat) (kd : Nat → Bool) (tag : Nat → Nat) (xl : Nat → List Nat) (pi : Nat → Nat → Int32) (ol : Option Nat) (L2 : List Nat) (kd2 : Nat → Bool) (tag2 : Nat → Nat) (xl2 : Nat → List Nat) (pi2 : Nat → Nat → Int32) (ol2 : Option Nat) (wd ad : List Int32) (n d : Nat) : Prop :=
  (∀ x ∈ L, x ∈ L2 ∧ kd2 x = kd x ∧ (tag x = 6 → tag2 x = 6)) ∧
  ((dz pi2 (xl2 1)).Perm (wd ++ dz pi (xl 1)) ∧ (Srt (dz pi (xl 1)) → Srt (dz pi2 (xl2 1)))) ∧
  ((dz pi2 (xl2 2)).Perm (ad ++ dz pi (xl 2)) ∧ (Srt (dz pi (xl 2)) → Srt (dz pi2 (xl2 2)))) ∧
  tot xl2 ol2 + d = tot xl ol + n ∧
  ((xl 0).length ≤ 100 → (xl2 0).length ≤ 100 ∧ ∀ cap, tot xl ol ≤ cap → 102 + (xl2 1).length + (xl2 2).length ≤ cap → tot xl2 ol2 + d ≤ cap)
/-- the road's own numbers: room, the ways' lengths, what is told -/
def LK (ov : Nat → Int32) : Prop := ov 1 ≤ 100 ∧ (1 ≤ ov 2 ∧ ov 2 ≤ 1000) ∧ (1 ≤ ov 3 ∧ ov 3 ≤ 1000)
theorem LK_of {ov ov2 : Nat → Int32} (h : LK ov) (e : ov2 1 = ov 1 ∧ ov2 2 = ov 2 ∧ ov2 3 = ov 3) : LK ov2 := by
  unfold LK
  rw [e.1, e.2.1, e.2.2]
  exact h
theorem srt_ins {ys zs : List Int32} {x : Int32} (h : Srt (ys ++ zs)) (h1 : ∀ b, ys.getLast? = some b → b ≤ x) (h2 : ∀ c, zs.head? = some c → x ≤ c) : Srt (ys ++ x :: zs) := by
  obtain ⟨p1, p2, p3⟩ := List.pairwise_append.mp h
  have a1 : ∀ y ∈ ys, y ≤ x := by
    intro y hy
    rcases List.eq_nil_or_concat ys with e | ⟨ws, b, e⟩
    · rw [e] at hy; cases hy
    · rw [List.concat_eq_append] at e
      have hb := h1 b (by rw [e]; simp)
      rw [e] at hy p1
      rcases List.mem_append.mp hy with m | m
      · exact Int32.le_trans ((List.pairwise_append.mp p1).2.2 y m b (by simp)) hb
      · rw [List.mem_singleton.mp m]; exact hb
  have a2 : ∀ z ∈ zs, x ≤ z := by
    intro z hz
    cases zs with
    | nil => cases hz
    | cons c t =>
      have hc := h2 c rfl
      rcases List.mem_cons.mp hz with e | m
      · rw [e]; exact hc
      · exact Int32.le_trans hc ((List.pairwise_cons.mp p2).1 z m)
  refine List.pairwise_append.mpr ⟨p1, List.pairwise_cons.mpr ⟨a2, p2⟩, fun a ha b hb => ?_⟩
  rcases List.mem_cons.mp hb with e | m
  · rw [e]; exact a1 a ha
  · exact p3 a ha b m
theorem dz_len (pi : Nat → Nat → Int32) (xs : List Nat) : (dz pi xs).length = xs.length := List.length_map ..
theorem QQ_rf {L : List Nat} {kd : Nat → Bool} {tag : Nat → Nat} {xl : Nat → List Nat} {pi : Nat → Nat → Int32} {ol : Option Nat} : QQ L kd tag xl pi ol  L kd tag xl pi ol [] [] 0 0 :=
  ⟨fun x hx => ⟨hx, rfl, fun h => h⟩, ⟨List.Perm.refl _, fun h => h⟩, ⟨List.Perm.refl _, fun h => h⟩, rfl, fun h => ⟨h, fun cap h1 _ => h1⟩⟩
theorem QQ_st {L : List Nat} {kd : Nat → Bool} {tag : Nat → Nat} {xl : Nat → List Nat} {pi : Nat → Nat → Int32} {ol : Option Nat} {L2 : List Nat} {kd2 : Nat → Bool} {tag2 : Nat → Nat} {xl2 : Nat → List Nat} {pi2 : Nat → Nat → Int32} {ol2 : Option Nat} {tag3 : Nat → Nat} {xl3 : Nat → List Nat} {ol3 : Option Nat} {wd ad : List Int32} {n d : Nat} {d3 : Nat} (h : QQ L kd tag xl pi ol L2 kd2 tag2 xl2 pi2 ol2 wd ad n d) (h1 : ∀ x ∈ L, tag x = 6 → tag2 x = 6 → tag3 x = 6) (e1 : xl3 1 = xl2 1) (e2 : xl3 2 = xl2 2) (et : tot xl3 ol3 + d3 = tot xl2 ol2 + d) (h0 : (xl2 0).length ≤ 100 → (xl3 0).length ≤ 100) : QQ L kd tag xl pi ol L2 kd2 tag3 xl3 pi2 ol3 wd ad n d3 := by
  obtain ⟨a1, a2, a3, a4, a5⟩ := h
  refine ⟨fun x hx => ⟨(a1 x hx).1, (a1 x hx).2.1, fun q => h1 x hx q ((a1 x hx).2.2 q)⟩, by rw [e1]; exact a2, by rw [e2]; exact a3, by omega, fun q => ?_⟩
  obtain ⟨b1, b2⟩ := a5 q
  refine ⟨h0 b1, fun cap c1 c2 => ?_⟩
  rw [e1, e2] at c2
  have := b2 cap c1 c2
  omega
theorem RI_none {L : List Nat} {kd : Nat → Bool} {af : Nat → Option Nat} {tag : Nat → Nat} {cf cl : Nat → Option Nat} {xl : Nat → List Nat} {ol : Option Nat} {i : Nat} (h : RI L kd af tag cf cl xl ol) (hi : i < 4) (hz : cf i = none) : xl i = [] := by
  have e1 := (h.1 i hi).1.1
  rw [hz] at e1
  cases hxl : xl i with
  | nil => rfl
  | cons a t => rw [hxl] at e1; cases e1
theorem QQ_tkn0 {L : List Nat} {kd : Nat → Bool} {tag : Nat → Nat} {xl : Nat → List Nat} {pi : Nat → Nat → Int32} {ol : Option Nat} {L2 : List Nat} {kd2 : Nat → Bool} {tag2 : Nat → Nat} {xl2 : Nat → List Nat} {pi2 : Nat → Nat → Int32} {ol2 : Option Nat} {af : Nat → Option Nat} {cf cl : Nat → Option Nat} {wd ad : List Int32} {n d : Nat} (h : QQ L kd tag xl pi ol L2 kd2 tag2 xl2 pi2 ol2 wd ad n d) (hR : RI L2 kd2 af tag2 cf cl xl2 ol2) (hz : cf 0 = none) : QQ L kd tag xl pi ol L2 kd2 (tk_tag tag2 none) (va_up xl2 0 (xl2 0).tail) pi2 ol2 wd ad n d := by
  have e := RI_none hR (i := 0) (by decide) hz
  refine QQ_st h (fun x _ _ q => q) (va_up_ne _ _ (by decide)) (va_up_ne _ _ (by decide)) ?_ ?_
  · simp only [tot, va_up]
    simp [e]
  · simp only [va_up]
    simp [e]
theorem QQ_tks0 {L : List Nat} {kd : Nat → Bool} {tag : Nat → Nat} {xl : Nat → List Nat} {pi : Nat → Nat → Int32} {ol : Option Nat} {L2 : List Nat} {kd2 : Nat → Bool} {tag2 : Nat → Nat} {xl2 : Nat → List Nat} {pi2 : Nat → Nat → Int32} {ol2 : Option Nat} {af : Nat → Option Nat} {cf cl : Nat → Option Nat} {wd ad : List Int32} {n d : Nat} {z : Nat} (h : QQ L kd tag xl pi ol L2 kd2 tag2 xl2 pi2 ol2 wd ad n d) (hR : RI L2 kd2 af tag2 cf cl xl2 ol2) (hz : cf 0 = some z) : QQ L kd tag xl pi ol L2 kd2 (tk_tag tag2 (some z)) (va_up xl2 0 (xl2 0).tail) pi2 ol2 wd ad n (d + 1) := by
  obtain ⟨-, -, t, e⟩ := RI_hd hR (i := 0) (by decide) hz
  refine QQ_st h (fun x _ _ q => ?_) (va_up_ne _ _ (by decide)) (va_up_ne _ _ (by decide)) ?_ ?_
  · show va_up tag2 z 6 x = 6
    by_cases w : x = z
    · rw [w, va_up_self]
    · rw [va_up_ne _ _ w]; exact q
  · simp only [tot, va_up]
    simp [e]
    omega
  · simp only [va_up]
    simp [e]
    omega
theorem QQ_tkn3 {L : List Nat} {kd : Nat → Bool} {tag : Nat → Nat} {xl : Nat → List Nat} {pi : Nat → Nat → Int32} {ol : Option Nat} {L2 : List Nat} {kd2 : Nat → Bool} {tag2 : Nat → Nat} {xl2 : Nat → List Nat} {pi2 : Nat → Nat → Int32} {ol2 : Option Nat} {af : Nat → Option Nat} {cf cl : Nat → Option Nat} {wd ad : List Int32} {n d : Nat} (h : QQ L kd tag xl pi ol L2 kd2 tag2 xl2 pi2 ol2 wd ad n d) (hR : RI L2 kd2 af tag2 cf cl xl2 ol2) (hz : cf 3 = none) : QQ L kd tag xl pi ol L2 kd2 (tk_tag tag2 none) (va_up xl2 3 (xl2 3).tail) pi2 ol2 wd ad n d := by
  have e := RI_none hR (i := 3) (by decide) hz
  refine QQ_st h (fun x _ _ q => q) (va_up_ne _ _ (by decide)) (va_up_ne _ _ (by decide)) ?_ ?_
  · simp only [tot, va_up]
    simp [e]
  · simp only [va_up]
    simp
theorem QQ_tks3 {L : List Nat} {kd : Nat → Bool} {tag : Nat → Nat} {xl : Nat → List Nat} {pi : Nat → Nat → Int32} {ol : Option Nat} {L2 : List Nat} {kd2 : Nat → Bool} {tag2 : Nat → Nat} {xl2 : Nat → List Nat} {pi2 : Nat → Nat → Int32} {ol2 : Option Nat} {af : Nat → Option Nat} {cf cl : Nat → Option Nat} {wd ad : List Int32} {n d : Nat} {z : Nat} (h : QQ L kd tag xl pi ol L2 kd2 tag2 xl2 pi2 ol2 wd ad n d) (hR : RI L2 kd2 af tag2 cf cl xl2 ol2) (hz : cf 3 = some z) : QQ L kd tag xl pi ol L2 kd2 (tk_tag tag2 (some z)) (va_up xl2 3 (xl2 3).tail) pi2 ol2 wd ad n (d + 1) := by
  obtain ⟨-, -, t, e⟩ := RI_hd hR (i := 3) (by decide) hz
  refine QQ_st h (fun x _ _ q => ?_) (va_up_ne _ _ (by decide)) (va_up_ne _ _ (by decide)) ?_ ?_
  · show va_up tag2 z 6 x = 6
    by_cases w : x = z
    · rw [w, va_up_self]
    · rw [va_up_ne _ _ w]; exact q
  · simp only [tot, va_up]
    simp [e]
    omega
  · simp only [va_up]
    simp [e]
theorem dz_upp {pi : Nat → Nat → Int32} {xs : List Nat} {k q : Nat} {x : Int32} (h : q ∉ xs) : dz (upp pi k q x) xs = dz pi xs := by
  refine List.map_congr_left (fun a ha => ?_)
  have hne : a ≠ q := fun e => h (e ▸ ha)
  show (if 0 = k then (if a = q then x else pi 0 a) else pi 0 a) = pi 0 a
  rw [if_neg hne, ite_self]
theorem dz_up0 {pi : Nat → Nat → Int32} {xs : List Nat} {q : Nat} {x : Int32} (h : q ∉ xs) : dz (fun k => va_up (pi k) q x) xs = dz pi xs := by
  refine List.map_congr_left (fun a ha => ?_)
  have hne : a ≠ q := fun e => h (e ▸ ha)
  exact va_up_ne _ _ hne
theorem QQ_o {L : List Nat} {kd : Nat → Bool} {tag : Nat → Nat} {xl : Nat → List Nat} {pi : Nat → Nat → Int32} {ol : Option Nat} {L2 : List Nat} {kd2 : Nat → Bool} {tag2 : Nat → Nat} {xl2 : Nat → List Nat} {pi2 : Nat → Nat → Int32} {ol2 : Option Nat} {wd ad : List Int32} {n d : Nat} {q : Nat} (h : QQ L kd tag xl pi ol L2 kd2 tag2 xl2 pi2 ol2 wd ad n d) (hc : tag2 q ≠ 6) : q ∈ L → tag q ≠ 6 := fun m e => hc ((h.1 q m).2.2 e)
theorem QQ_ob {L : List Nat} {kd : Nat → Bool} {tag : Nat → Nat} {xl : Nat → List Nat} {pi : Nat → Nat → Int32} {ol : Option Nat} {L2 : List Nat} {kd2 : Nat → Bool} {tag2 : Nat → Nat} {xl2 : Nat → List Nat} {pi2 : Nat → Nat → Int32} {ol2 : Option Nat} {wd ad : List Int32} {n d : Nat} {q : Nat} (h : QQ L kd tag xl pi ol L2 kd2 tag2 xl2 pi2 ol2 wd ad n d) (hc : q ∉ L2) : q ∈ L → tag q ≠ 6 := fun m => absurd (h.1 q m).1 hc
theorem RI_tg {L : List Nat} {kd : Nat → Bool} {af : Nat → Option Nat} {tag : Nat → Nat} {cf cl : Nat → Option Nat} {xl : Nat → List Nat} {ol : Option Nat} {i z : Nat} (h : RI L kd af tag cf cl xl ol) (hi : i < 4) (hz : cf i = some z) : tag z = i := by
  obtain ⟨-, -, t, e⟩ := RI_hd h hi hz
  exact ((h.1 i hi).2.2 z (by rw [e]; exact List.mem_cons_self)).2.2
theorem q_lt {zn : Nat → Int32} {xl : Nat → List Nat} {ov : Nat → Int32} {x : Int32} (hZ : ZN zn xl) (h : zn 0 < x) (e : x = ov 1) (hL : LK ov) (h0 : (xl 0).length ≤ 100) : (xl 0).length < 100 := by
  rcases Nat.lt_or_ge (xl 0).length 100 with w | w
  · exact w
  · exfalso
    rw [hZ 0 (by decide), show (xl 0).length = 100 by omega, e] at h
    exact absurd hL.1 (Int32.not_le.mpr h)
theorem QQ_pi {L : List Nat} {kd : Nat → Bool} {tag : Nat → Nat} {xl : Nat → List Nat} {pi : Nat → Nat → Int32} {ol : Option Nat} {L2 : List Nat} {kd2 : Nat → Bool} {tag2 : Nat → Nat} {xl2 : Nat → List Nat} {pi2 : Nat → Nat → Int32} {ol2 : Option Nat} {af : Nat → Option Nat} {cf cl : Nat → Option Nat} {wd ad : List Int32} {n d : Nat} {k q : Nat} {x : Int32} (h : QQ L kd tag xl pi ol L2 kd2 tag2 xl2 pi2 ol2 wd ad n d) (hR : RI L2 kd2 af tag2 cf cl xl2 ol2) (t_q : tag2 q = 6) : QQ L kd tag xl pi ol L2 kd2 tag2 xl2 (upp pi2 k q x) ol2 wd ad n d := by
  obtain ⟨a1, a2, a3, a4, a5⟩ := h
  refine ⟨a1, ?_, ?_, a4, a5⟩
  · rw [dz_upp (RI_notin hR (i := 1) (by decide) t_q)]; exact a2
  · rw [dz_upp (RI_notin hR (i := 2) (by decide) t_q)]; exact a3
theorem QQ_born {L : List Nat} {kd : Nat → Bool} {tag : Nat → Nat} {xl : Nat → List Nat} {pi : Nat → Nat → Int32} {ol : Option Nat} {L2 : List Nat} {kd2 : Nat → Bool} {tag2 : Nat → Nat} {xl2 : Nat → List Nat} {pi2 : Nat → Nat → Int32} {ol2 : Option Nat} {af : Nat → Option Nat} {cf cl : Nat → Option Nat} {wd ad : List Int32} {n q w : Nat} (h : QQ L kd tag xl pi ol L2 kd2 tag2 xl2 pi2 ol2 wd ad n 0) (hR : RI L2 kd2 af tag2 cf cl xl2 ol2) (h1 : q ∉ L2) (h2 : w ∉ L2) (hz : cf 3 = none) : QQ L kd tag xl pi ol (L2 ++ [q, w]) (va_up (va_up kd2 q false) w true) (va_up tag2 q 6) xl2 (fun k => va_up (pi2 k) q 0) ol2 wd ad (n + 1) 1 := by
  obtain ⟨a1, a2, a3, a4, a5⟩ := h
  have e := RI_none hR (i := 3) (by decide) hz
  have nin : ∀ i, i < 4 → q ∉ xl2 i := fun i hi m => h1 ((hR.1 i hi).2.2 q m).1
  refine ⟨fun x hx => ?_, ?_, ?_, ?_, fun q5 => ?_⟩
  · have b := a1 x hx
    have n1 : x ≠ q := fun e => h1 (e ▸ b.1)
    have n2 : x ≠ w := fun e => h2 (e ▸ b.1)
    exact ⟨List.mem_append_left _ b.1, by rw [va_up_ne _ _ n2, va_up_ne _ _ n1]; exact b.2.1, fun h6 => by rw [va_up_ne _ _ n1]; exact b.2.2 h6⟩
  · rw [dz_up0 (nin 1 (by decide))]; exact a2
  · rw [dz_up0 (nin 2 (by decide))]; exact a3
  · omega
  · obtain ⟨b1, b2⟩ := a5 q5
    refine ⟨b1, fun cap c1 c2 => ?_⟩
    have e2 : (xl2 3).length = 0 := by rw [e]; rfl
    have : on1 ol2 ≤ 1 := by cases ol2 <;> simp [on1]
    unfold tot
    omega
theorem tag_keep {tag tag2 : Nat → Nat} {L : List Nat} {q j : Nat} (hq : q ∈ L → tag q ≠ 6) : ∀ x ∈ L, tag x = 6 → tag2 x = 6 → va_up tag2 q j x = 6 := fun x hx q6 t6 => by
  by_cases e : x = q
  · rw [e] at hx q6
    exact absurd q6 (hq hx)
  · rw [va_up_ne _ _ e]; exact t6
theorem QQ_app0 {L : List Nat} {kd : Nat → Bool} {tag : Nat → Nat} {xl : Nat → List Nat} {pi : Nat → Nat → Int32} {ol : Option Nat} {L2 : List Nat} {kd2 : Nat → Bool} {tag2 : Nat → Nat} {xl2 : Nat → List Nat} {pi2 : Nat → Nat → Int32} {ol2 : Option Nat} {wd ad : List Int32} {n d : Nat} {q : Nat} (h : QQ L kd tag xl pi ol L2 kd2 tag2 xl2 pi2 ol2 wd ad n (d + 1)) (hq : q ∈ L → tag q ≠ 6) (hr : (xl2 0).length < 100) : QQ L kd tag xl pi ol L2 kd2 (va_up tag2 q 0) (va_up xl2 0 (xl2 0 ++ [q])) pi2 ol2 wd ad n d := by
  refine QQ_st h (tag_keep hq) (va_up_ne _ _ (by decide)) (va_up_ne _ _ (by decide)) ?_ ?_
  · simp only [tot, va_up]
    simp
    omega
  · simp only [va_up]
    simp
    omega
theorem QQ_on {L : List Nat} {kd : Nat → Bool} {tag : Nat → Nat} {xl : Nat → List Nat} {pi : Nat → Nat → Int32} {ol : Option Nat} {L2 : List Nat} {kd2 : Nat → Bool} {tag2 : Nat → Nat} {xl2 : Nat → List Nat} {pi2 : Nat → Nat → Int32} {wd ad : List Int32} {n d : Nat} {q : Nat} (h : QQ L kd tag xl pi ol L2 kd2 tag2 xl2 pi2 none wd ad n (d + 1)) (hq : q ∈ L → tag q ≠ 6) : QQ L kd tag xl pi ol L2 kd2 (va_up tag2 q 5) xl2 pi2 (some q) wd ad n d := by
  refine QQ_st h (tag_keep hq) rfl rfl ?_ (fun w => w)
  simp only [tot, on1]
  omega
theorem QQ_off {L : List Nat} {kd : Nat → Bool} {tag : Nat → Nat} {xl : Nat → List Nat} {pi : Nat → Nat → Int32} {ol : Option Nat} {L2 : List Nat} {kd2 : Nat → Bool} {tag2 : Nat → Nat} {xl2 : Nat → List Nat} {pi2 : Nat → Nat → Int32} {wd ad : List Int32} {n d : Nat} {z : Nat} (h : QQ L kd tag xl pi ol L2 kd2 tag2 xl2 pi2 (some z) wd ad n d) : QQ L kd tag xl pi ol L2 kd2 (va_up tag2 z 6) xl2 pi2 none wd ad n (d + 1) := by
  refine QQ_st h (fun x _ _ q => ?_) rfl rfl ?_ (fun w => w)
  · by_cases w : x = z
    · rw [w, va_up_self]
    · rw [va_up_ne _ _ w]; exact q
  · simp only [tot, on1]
    omega
theorem dz_put {pi : Nat → Nat → Int32} {xs ys zs : List Nat} {q : Nat} {l0 ad : List Int32} (e : xs = ys ++ zs) (ho : (∀ b, ys.getLast? = some b → pi 0 b ≤ pi 0 q) ∧ ∀ c, zs.head? = some c → pi 0 q ≤ pi 0 c) (h : (dz pi xs).Perm (ad ++ l0) ∧ (Srt l0 → Srt (dz pi xs))) : (dz pi (ys ++ q :: zs)).Perm ((pi 0 q :: ad) ++ l0) ∧ (Srt l0 → Srt (dz pi (ys ++ q :: zs))) := by
  subst e
  have e1 : dz pi (ys ++ q :: zs) = dz pi ys ++ pi 0 q :: dz pi zs := by simp [dz]
  have e2 : dz pi (ys ++ zs) = dz pi ys ++ dz pi zs := by simp [dz]
  rw [e2] at h
  rw [e1]
  refine ⟨List.perm_middle.trans ?_, fun w => srt_ins (h.2 w) (fun b hb => ?_) (fun c hc => ?_)⟩
  · exact List.Perm.cons _ h.1
  · rw [List.getLast?_map] at hb
    cases hy : ys.getLast? with
    | none => rw [hy] at hb; cases hb
    | some y =>
      rw [hy] at hb
      have : pi 0 y = b := Option.some.inj hb
      rw [← this]
      exact ho.1 y hy
  · rw [List.head?_map] at hc
    cases hy : zs.head? with
    | none => rw [hy] at hc; cases hc
    | some y =>
      rw [hy] at hc
      have : pi 0 y = c := Option.some.inj hc
      rw [← this]
      exact ho.2 y hy
theorem QQ_put1 {L : List Nat} {kd : Nat → Bool} {tag : Nat → Nat} {xl : Nat → List Nat} {pi : Nat → Nat → Int32} {ol : Option Nat} {L2 : List Nat} {kd2 : Nat → Bool} {tag2 : Nat → Nat} {xl2 : Nat → List Nat} {pi2 : Nat → Nat → Int32} {ol2 : Option Nat} {wd ad : List Int32} {n d : Nat} {q : Nat} {ys zs : List Nat} (h : QQ L kd tag xl pi ol L2 kd2 tag2 xl2 pi2 ol2 wd ad n (d + 1)) (hq : q ∈ L → tag q ≠ 6) (e : xl2 1 = ys ++ zs) (ho : (∀ b, ys.getLast? = some b → pi2 0 b ≤ pi2 0 q) ∧ ∀ c, zs.head? = some c → pi2 0 q ≤ pi2 0 c) : QQ L kd tag xl pi ol L2 kd2 (va_up tag2 q 1) (va_up xl2 1 (ys ++ q :: zs)) pi2 ol2 (pi2 0 q :: wd) ad n d := by
  obtain ⟨a1, a2, a3, a4, a5⟩ := h
  have f1 : va_up xl2 1 (ys ++ q :: zs) 2 = xl2 2 := va_up_ne _ _ (by decide)
  have f2 : va_up xl2 1 (ys ++ q :: zs) 1 = ys ++ q :: zs := va_up_self _ _ _
  have f3 : (ys ++ q :: zs).length = (xl2 1).length + 1 := by rw [e]; simp; omega
  have f4 : tot (va_up xl2 1 (ys ++ q :: zs)) ol2 = tot xl2 ol2 + 1 := by
    unfold tot
    rw [f1, f2, va_up_ne _ _ (show (0 : Nat) ≠ 1 by decide), va_up_ne _ _ (show (3 : Nat) ≠ 1 by decide)]
    omega
  refine ⟨fun x hx => ⟨(a1 x hx).1, (a1 x hx).2.1, fun q6 => tag_keep hq x hx q6 ((a1 x hx).2.2 q6)⟩, by rw [f2]; exact dz_put e ho a2, by rw [f1]; exact a3, by omega, fun q5 => ?_⟩
  obtain ⟨b1, b2⟩ := a5 q5
  refine ⟨by rw [va_up_ne _ _ (show (0 : Nat) ≠ 1 by decide)]; exact b1, fun cap c1 c2 => ?_⟩
  rw [f1, f2] at c2
  have := b2 cap c1 (by omega)
  omega
theorem QQ_put2 {L : List Nat} {kd : Nat → Bool} {tag : Nat → Nat} {xl : Nat → List Nat} {pi : Nat → Nat → Int32} {ol : Option Nat} {L2 : List Nat} {kd2 : Nat → Bool} {tag2 : Nat → Nat} {xl2 : Nat → List Nat} {pi2 : Nat → Nat → Int32} {ol2 : Option Nat} {wd ad : List Int32} {n d : Nat} {q : Nat} {ys zs : List Nat} (h : QQ L kd tag xl pi ol L2 kd2 tag2 xl2 pi2 ol2 wd ad n (d + 1)) (hq : q ∈ L → tag q ≠ 6) (e : xl2 2 = ys ++ zs) (ho : (∀ b, ys.getLast? = some b → pi2 0 b ≤ pi2 0 q) ∧ ∀ c, zs.head? = some c → pi2 0 q ≤ pi2 0 c) : QQ L kd tag xl pi ol L2 kd2 (va_up tag2 q 2) (va_up xl2 2 (ys ++ q :: zs)) pi2 ol2 wd (pi2 0 q :: ad) n d := by
  obtain ⟨a1, a2, a3, a4, a5⟩ := h
  have f1 : va_up xl2 2 (ys ++ q :: zs) 1 = xl2 1 := va_up_ne _ _ (by decide)
  have f2 : va_up xl2 2 (ys ++ q :: zs) 2 = ys ++ q :: zs := va_up_self _ _ _
  have f3 : (ys ++ q :: zs).length = (xl2 2).length + 1 := by rw [e]; simp; omega
  have f4 : tot (va_up xl2 2 (ys ++ q :: zs)) ol2 = tot xl2 ol2 + 1 := by
    unfold tot
    rw [f1, f2, va_up_ne _ _ (show (0 : Nat) ≠ 2 by decide), va_up_ne _ _ (show (3 : Nat) ≠ 2 by decide)]
    omega
  refine ⟨fun x hx => ⟨(a1 x hx).1, (a1 x hx).2.1, fun q6 => tag_keep hq x hx q6 ((a1 x hx).2.2 q6)⟩, by rw [f1]; exact a2, by rw [f2]; exact dz_put e ho a3, by omega, fun q5 => ?_⟩
  obtain ⟨b1, b2⟩ := a5 q5
  refine ⟨by rw [va_up_ne _ _ (show (0 : Nat) ≠ 2 by decide)]; exact b1, fun cap c1 c2 => ?_⟩
  rw [f1, f2] at c2
  have := b2 cap c1 (by omega)
  omega
theorem QQ_trans {L : List Nat} {kd : Nat → Bool} {tag : Nat → Nat} {xl : Nat → List Nat} {pi : Nat → Nat → Int32} {ol : Option Nat} {L2 : List Nat} {kd2 : Nat → Bool} {tag2 : Nat → Nat} {xl2 : Nat → List Nat} {pi2 : Nat → Nat → Int32} {ol2 : Option Nat} {L3 : List Nat} {kd3 : Nat → Bool} {tag3 : Nat → Nat} {xl3 : Nat → List Nat} {pi3 : Nat → Nat → Int32} {ol3 : Option Nat} {wd ad wd2 ad2 : List Int32} {n n2 : Nat} (h : QQ L kd tag xl pi ol L2 kd2 tag2 xl2 pi2 ol2 wd ad n 0) (g : QQ L2 kd2 tag2 xl2 pi2 ol2 L3 kd3 tag3 xl3 pi3 ol3 wd2 ad2 n2 0) : QQ L kd tag xl pi ol L3 kd3 tag3 xl3 pi3 ol3 (wd2 ++ wd) (ad2 ++ ad) (n + n2) 0 := by
  obtain ⟨a1, a2, a3, a4, a5⟩ := h
  obtain ⟨c1, c2, c3, c4, c5⟩ := g
  have l1 := c2.1.length_eq
  have l2 := c3.1.length_eq
  rw [List.length_append, dz_len, dz_len] at l1 l2
  refine ⟨fun x hx => ⟨(c1 x (a1 x hx).1).1, (c1 x (a1 x hx).1).2.1.trans (a1 x hx).2.1, fun q => (c1 x (a1 x hx).1).2.2 ((a1 x hx).2.2 q)⟩, ⟨?_, fun w => c2.2 (a2.2 w)⟩, ⟨?_, fun w => c3.2 (a3.2 w)⟩, by omega, fun q => ?_⟩
  · rw [List.append_assoc]
    exact c2.1.trans (List.Perm.append_left _ a2.1)
  · rw [List.append_assoc]
    exact c3.1.trans (List.Perm.append_left _ a3.1)
  · obtain ⟨b1, b2⟩ := a5 q
    obtain ⟨b3, b4⟩ := c5 b1
    refine ⟨b3, fun cap d1 d2 => ?_⟩
    have g1 := b2 cap d1 (by omega)
    have g2 := b4 cap (by omega) d2
    omega
theorem QQ_b {L : List Nat} {kd : Nat → Bool} {tag : Nat → Nat} {xl : Nat → List Nat} {pi : Nat → Nat → Int32} {ol : Option Nat} {L2 : List Nat} {kd2 : Nat → Bool} {tag2 : Nat → Nat} {xl2 : Nat → List Nat} {pi2 : Nat → Nat → Int32} {ol2 : Option Nat} {n : Nat} (h : QQ L kd tag xl pi ol L2 kd2 tag2 xl2 pi2 ol2 [] [] n 0) (h0 : (xl 0).length ≤ 100) (ht : tot xl ol ≤ 12000) (hc : 102 + (xl 1).length + (xl 2).length ≤ 12000) : n ≤ 12000 ∧ (xl2 0).length ≤ 100 ∧ tot xl2 ol2 ≤ 12000 ∧ 102 + (xl2 1).length + (xl2 2).length ≤ 12000 := by
  obtain ⟨a1, a2, a3, a4, a5⟩ := h
  have l1 := a2.1.length_eq
  have l2 := a3.1.length_eq
  rw [List.nil_append, dz_len, dz_len] at l1 l2
  have b := (a5 h0).2 12000 ht (by omega)
  exact ⟨by omega, (a5 h0).1, by omega, by omega⟩
