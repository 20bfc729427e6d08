/-! what the road holds: the parcel on the link, the queue, the way, the acks, by what they tell -/
abbrev S3 : Type := Int32 × Int32 × Int32
abbrev S4 : Type := Int32 × Int32 × Int32 × Int32
abbrev R4 : Type := Int64 × Int64 × Int64 × Int64
abbrev A6 : Type := Int32 × Int32 × Int32 × Int32 × Int32 × R4
def rw4 (g : Nat → Int64) : R4 := (g (0 : Int32).toNatClampNeg, g (1 : Int32).toNatClampNeg, g (2 : Int32).toNatClampNeg, g (3 : Int32).toNatClampNeg)
def om {α β : Type} (o : Option α) (n : β) (k : α → β) : β := match o with
  | none => n
  | some c => k c
def lm {α β : Type} (l : List α) (n : β) (k : α → List α → β) : β := match l with
  | [] => n
  | e :: t => k e t
theorem om_none {α β : Type} {o : Option α} {n R : β} {k : α → β} (e : o = none) (h : R = om o n k) : R = n := by subst e; exact h
theorem om_some {α β : Type} {o : Option α} {c : α} {n R : β} {k : α → β} (e : o = some c) (h : R = om o n k) : R = k c := by subst e; exact h
theorem lm_nil {α β : Type} {l : List α} {n R : β} {k : α → List α → β} (e : l = []) (h : R = lm l n k) : R = n := by subst e; exact h
theorem lm_cons {α β : Type} {l t : List α} {c : α} {n R : β} {k : α → List α → β} (e : l = c :: t) (h : R = lm l n k) : R = k c t := by rw [h, e]; rfl
theorem upp_eq {pi : Nat → Nat → Int32} {k a : Nat} {x : Int32} : upp pi k a x k a = x := by simp [upp]
theorem upp_ne {pi : Nat → Nat → Int32} {k a j b : Nat} {x : Int32} (h : j ≠ k) : upp pi k a x j b = pi j b := if_neg h
theorem upp_nz {pi : Nat → Nat → Int32} {k a j b : Nat} {x : Int32} (h : b ≠ a) : upp pi k a x j b = pi j b := by simp [upp, h]
theorem updL_eq {f : Nat → Int64} {k : Nat} {x : Int64} : vp_updL f k x k = x := if_pos rfl
theorem updL_ne {f : Nat → Int64} {k j : Nat} {x : Int64} (h : j ≠ k) : vp_updL f k x j = f j := if_neg h
def cq (pi : Nat → Nat → Int32) (z : Nat) : S3 := (pi 1 z, pi 2 z, pi 3 z)
def cs (pi : Nat → Nat → Int32) (z : Nat) : S4 := (pi 0 z, pi 1 z, pi 2 z, pi 3 z)
def ca (pi : Nat → Nat → Int32) (bd : Nat → Nat) (bo : Nat → Nat → Int64) (z : Nat) : A6 := (pi 0 z, pi 1 z, pi 2 z, pi 3 z, pi 4 z, rw4 (bo (bd z)))
def GG (xl : Nat → List Nat) (pi : Nat → Nat → Int32) (bd : Nat → Nat) (bo : Nat → Nat → Int64) (ol : Option Nat) (o : Option S4) (q : List S3) (w : List S4) (a : List A6) : Prop :=
  ol.map (cs pi) = o ∧ (xl 0).map (cq pi) = q ∧ (xl 1).map (cs pi) = w ∧ (xl 2).map (ca pi bd bo) = a
/-- by dues, behind the equal ones -/
def insS (c : S4) : List S4 → List S4
  | [] => [c]
  | d :: t => if d.1 ≤ c.1 then d :: insS c t else c :: d :: t
def insA (c : A6) : List A6 → List A6
  | [] => [c]
  | d :: t => if d.1 ≤ c.1 then d :: insA c t else c :: d :: t
theorem insS_mid {c : S4} {zs : List S4} : ∀ {ys : List S4}, (∀ d ∈ ys, d.1 ≤ c.1) → (∀ d, zs.head? = some d → c.1 < d.1) → insS c (ys ++ zs) = ys ++ c :: zs
  | [], _, h2 => by
    cases zs with
    | nil => rfl
    | cons d t => exact if_neg (Int32.not_le.mpr (h2 d rfl))
  | y :: ys, h1, h2 => by
    show (if y.1 ≤ c.1 then y :: insS c (ys ++ zs) else c :: y :: (ys ++ zs)) = _
    rw [if_pos (h1 y List.mem_cons_self), insS_mid (fun d hd => h1 d (List.mem_cons_of_mem _ hd)) h2]
    rfl
theorem insA_mid {c : A6} {zs : List A6} : ∀ {ys : List A6}, (∀ d ∈ ys, d.1 ≤ c.1) → (∀ d, zs.head? = some d → c.1 < d.1) → insA c (ys ++ zs) = ys ++ c :: zs
  | [], _, h2 => by
    cases zs with
    | nil => rfl
    | cons d t => exact if_neg (Int32.not_le.mpr (h2 d rfl))
  | y :: ys, h1, h2 => by
    show (if y.1 ≤ c.1 then y :: insA c (ys ++ zs) else c :: y :: (ys ++ zs)) = _
    rw [if_pos (h1 y List.mem_cons_self), insA_mid (fun d hd => h1 d (List.mem_cons_of_mem _ hd)) h2]
    rfl
/-- sorted, the last not beyond x: none is -/
theorem srt_le {l : List Int32} {x : Int32} (h : Srt l) (h1 : ∀ b, l.getLast? = some b → b ≤ x) : ∀ y ∈ l, y ≤ x := by
  intro y hy
  rcases List.eq_nil_or_concat l with e | ⟨ws, b, e⟩
  · rw [e] at hy; cases hy
  · rw [List.concat_eq_append] at e
    have hb := h1 b (by rw [e]; simp)
    rw [e] at hy h
    rcases List.mem_append.mp hy with m | m
    · exact Int32.le_trans ((List.pairwise_append.mp h).2.2 y m b (by simp)) hb
    · rw [List.mem_singleton.mp m]; exact hb
theorem GG_congr {xl : Nat → List Nat} {pi : Nat → Nat → Int32} {bd : Nat → Nat} {bo : Nat → Nat → Int64} {ol : Option Nat} {o : Option S4} {q : List S3} {w : List S4} {a : List A6} {pi2 : Nat → Nat → Int32} {bd2 : Nat → Nat} {bo2 : Nat → Nat → Int64} (h : GG xl pi bd bo ol o q w a) (e0 : ∀ x, (x ∈ xl 0 ∨ x ∈ xl 1 ∨ x ∈ xl 2 ∨ ol = some x) → ∀ k, pi2 k x = pi k x) (e1 : ∀ x ∈ xl 2, bo2 (bd2 x) = bo (bd x)) : GG xl pi2 bd2 bo2 ol o q w a := by
  obtain ⟨h1, h2, h3, h4⟩ := h
  refine ⟨?_, ?_, ?_, ?_⟩
  · rw [← h1]
    cases ol with
    | none => rfl
    | some z =>
      have f := e0 z (Or.inr (Or.inr (Or.inr rfl)))
      show some (cs pi2 z) = some (cs pi z)
      unfold cs
      rw [f 0, f 1, f 2, f 3]
  · rw [← h2]
    exact List.map_congr_left (fun x hx => by
      have f := e0 x (Or.inl hx)
      unfold cq
      rw [f 1, f 2, f 3])
  · rw [← h3]
    exact List.map_congr_left (fun x hx => by
      have f := e0 x (Or.inr (Or.inl hx))
      unfold cs
      rw [f 0, f 1, f 2, f 3])
  · rw [← h4]
    exact List.map_congr_left (fun x hx => by
      have f := e0 x (Or.inr (Or.inr (Or.inl hx)))
      unfold ca
      rw [f 0, f 1, f 2, f 3, f 4, e1 x hx])
theorem RI_hand {L : List Nat} {kd : Nat → Bool} {af : Nat → Option Nat} {tag : Nat → Nat} {cf cl : Nat → Option Nat} {xl : Nat → List Nat} {ol : Option Nat} {z : Nat} (hR : RI L kd af tag cf cl xl ol) (t : tag z = 6) : ∀ x, (x ∈ xl 0 ∨ x ∈ xl 1 ∨ x ∈ xl 2 ∨ ol = some x) → ¬ x = z := by
  intro x hx e
  subst e
  rcases hx with m | m | m | m
  · have := ((hR.1 0 (by decide)).2.2 x m).2.2
    omega
  · have := ((hR.1 1 (by decide)).2.2 x m).2.2
    omega
  · have := ((hR.1 2 (by decide)).2.2 x m).2.2
    omega
  · have := (hR.2 x m).2.2
    omega
theorem RI_inL {L : List Nat} {kd : Nat → Bool} {af : Nat → Option Nat} {tag : Nat → Nat} {cf cl : Nat → Option Nat} {xl : Nat → List Nat} {ol : Option Nat} (hR : RI L kd af tag cf cl xl ol) : ∀ x, (x ∈ xl 0 ∨ x ∈ xl 1 ∨ x ∈ xl 2 ∨ ol = some x) → x ∈ L ∧ kd x = false := by
  intro x hx
  rcases hx with m | m | m | m
  · exact ⟨((hR.1 0 (by decide)).2.2 x m).1, ((hR.1 0 (by decide)).2.2 x m).2.1⟩
  · exact ⟨((hR.1 1 (by decide)).2.2 x m).1, ((hR.1 1 (by decide)).2.2 x m).2.1⟩
  · exact ⟨((hR.1 2 (by decide)).2.2 x m).1, ((hR.1 2 (by decide)).2.2 x m).2.1⟩
  · exact ⟨(hR.2 x m).1, (hR.2 x m).2.1⟩
theorem GG_pi {L : List Nat} {kd : Nat → Bool} {af : Nat → Option Nat} {tag : Nat → Nat} {cf cl : Nat → Option Nat} {xl : Nat → List Nat} {pi : Nat → Nat → Int32} {bd : Nat → Nat} {bo : Nat → Nat → Int64} {ol : Option Nat} {o : Option S4} {q : List S3} {w : List S4} {a : List A6} {k z : Nat} {x : Int32} (h : GG xl pi bd bo ol o q w a) (hR : RI L kd af tag cf cl xl ol) (t_z : tag z = 6) : GG xl (upp pi k z x) bd bo ol o q w a := by
  refine GG_congr h (fun y hy j => ?_) (fun _ _ => rfl)
  have n := RI_hand hR t_z y hy
  show (if j = k then (if y = z then x else pi j y) else pi j y) = pi j y
  by_cases e : j = k
  · rw [if_pos e, if_neg n]
  · rw [if_neg e]
/-- no two parcels share a board -/
def JB (L : List Nat) (kd : Nat → Bool) (bd : Nat → Nat) : Prop := ∀ x ∈ L, ∀ y ∈ L, kd x = false → kd y = false → bd x = bd y → x = y
theorem GG_bo {L : List Nat} {kd : Nat → Bool} {af : Nat → Option Nat} {tag : Nat → Nat} {cf cl : Nat → Option Nat} {xl : Nat → List Nat} {pi : Nat → Nat → Int32} {bd : Nat → Nat} {bo : Nat → Nat → Int64} {ol : Option Nat} {o : Option S4} {q : List S3} {w : List S4} {a : List A6} {z : Nat} {bo2 : Nat → Nat → Int64} (h : GG xl pi bd bo ol o q w a) (hR : RI L kd af tag cf cl xl ol) (hJ : JB L kd bd) (m_z : z ∈ L) (k_z : kd z = false) (t_z : tag z = 6) (hb : ∀ y, y ≠ bd z → bo2 y = bo y) : GG xl pi bd bo2 ol o q w a := by
  refine GG_congr h (fun y hy j => rfl) (fun x hx => ?_)
  have n := RI_hand hR t_z x (Or.inr (Or.inr (Or.inl hx)))
  have i := RI_inL hR x (Or.inr (Or.inr (Or.inl hx)))
  exact hb _ (fun e => n (hJ x i.1 z m_z i.2 k_z e))
theorem JB_born {L : List Nat} {kd : Nat → Bool} {bd : Nat → Nat} {pi : Nat → Nat → Int32} {z u : Nat} (h : JB L kd bd) (hPB : PB L kd pi bd) (h1 : z ∉ L) (h2 : u ∉ L) (h3 : ¬ z = u) : JB (L ++ [z, u]) (va_up (va_up kd z false) u true) (va_up bd z u) := by
  have kk : ∀ x, x ∈ L ++ [z, u] → va_up (va_up kd z false) u true x = false → x = z ∨ (x ∈ L ∧ ¬ x = z ∧ kd x = false) := by
    intro x hx hk
    have nu : ¬ x = u := fun e => by rw [e, va_up_self] at hk; cases hk
    rw [va_up_ne _ _ nu] at hk
    by_cases ez : x = z
    · exact Or.inl ez
    · rw [va_up_ne _ _ ez] at hk
      refine Or.inr ⟨?_, ez, hk⟩
      rcases List.mem_append.mp hx with m | m
      · exact m
      · rcases List.mem_cons.mp m with e | m2
        · exact absurd e ez
        · exact absurd (List.mem_singleton.mp m2) nu
  intro x hx y hy kx ky e
  rcases kk x hx kx with ex | ⟨mx, nx, kx2⟩ <;> rcases kk y hy ky with ey | ⟨my, ny, ky2⟩
  · rw [ex, ey]
  · rw [ex, va_up_self, va_up_ne _ _ ny] at e
    exact absurd (by rw [e]; exact (hPB y my ky2).1) h2
  · rw [ey, va_up_self, va_up_ne _ _ nx] at e
    exact absurd (by rw [← e]; exact (hPB x mx kx2).1) h2
  · rw [va_up_ne _ _ nx, va_up_ne _ _ ny] at e
    exact h x mx y my kx2 ky2 e
theorem GG_born {L : List Nat} {kd : Nat → Bool} {af : Nat → Option Nat} {tag : Nat → Nat} {cf cl : Nat → Option Nat} {xl : Nat → List Nat} {pi : Nat → Nat → Int32} {bd : Nat → Nat} {bo : Nat → Nat → Int64} {ol : Option Nat} {o : Option S4} {q : List S3} {w : List S4} {a : List A6} {z u : Nat} {v : Nat → Int64} (h : GG xl pi bd bo ol o q w a) (hR : RI L kd af tag cf cl xl ol) (hPB : PB L kd pi bd) (h1 : z ∉ L) (h2 : u ∉ L) : GG xl (fun k => va_up (pi k) z 0) (va_up bd z u) (va_up bo u v) ol o q w a := by
  refine GG_congr h (fun y hy j => va_up_ne _ _ (fun e => h1 (by rw [← e]; exact (RI_inL hR y hy).1))) (fun x hx => ?_)
  have i := RI_inL hR x (Or.inr (Or.inr (Or.inl hx)))
  have hz : va_up bd z u x = bd x := va_up_ne _ _ (fun (e : x = z) => h1 (by rw [← e]; exact i.1))
  rw [hz]
  exact va_up_ne _ _ (fun (e : bd x = u) => h2 (by rw [← e]; exact (hPB x i.1 i.2).1))
theorem GG_off {xl : Nat → List Nat} {pi : Nat → Nat → Int32} {bd : Nat → Nat} {bo : Nat → Nat → Int64} {z : Nat} {o : Option S4} {q : List S3} {w : List S4} {a : List A6} (h : GG xl pi bd bo (some z) o q w a) : GG xl pi bd bo none none q w a ∧ o = some (cs pi z) := ⟨⟨rfl, h.2⟩, h.1.symm⟩
theorem GG_on {xl : Nat → List Nat} {pi : Nat → Nat → Int32} {bd : Nat → Nat} {bo : Nat → Nat → Int64} {z : Nat} {o : Option S4} {q : List S3} {w : List S4} {a : List A6} (h : GG xl pi bd bo none o q w a) : GG xl pi bd bo (some z) (some (cs pi z)) q w a := ⟨rfl, h.2⟩
theorem GG_app0 {xl : Nat → List Nat} {pi : Nat → Nat → Int32} {bd : Nat → Nat} {bo : Nat → Nat → Int64} {ol : Option Nat} {o : Option S4} {q : List S3} {w : List S4} {a : List A6} {z : Nat} (h : GG xl pi bd bo ol o q w a) : GG (va_up xl 0 (xl 0 ++ [z])) pi bd bo ol o (q ++ [cq pi z]) w a := by
  obtain ⟨h1, h2, h3, h4⟩ := h
  refine ⟨h1, ?_, h3, h4⟩
  rw [va_up_self, List.map_append, h2]
  rfl
theorem GG_tks0 {xl : Nat → List Nat} {pi : Nat → Nat → Int32} {bd : Nat → Nat} {bo : Nat → Nat → Int64} {ol : Option Nat} {o : Option S4} {q : List S3} {w : List S4} {a : List A6} {z : Nat} {t : List Nat} (h : GG xl pi bd bo ol o q w a) (e : xl 0 = z :: t) : GG (va_up xl 0 (xl 0).tail) pi bd bo ol o q.tail w a ∧ q = cq pi z :: q.tail := by
  obtain ⟨h1, h2, h3, h4⟩ := h
  rw [e, List.map_cons] at h2
  subst h2
  refine ⟨⟨h1, ?_, h3, h4⟩, rfl⟩
  rw [va_up_self, e]
  rfl
theorem GG_tkn0 {xl : Nat → List Nat} {pi : Nat → Nat → Int32} {bd : Nat → Nat} {bo : Nat → Nat → Int64} {ol : Option Nat} {o : Option S4} {q : List S3} {w : List S4} {a : List A6} (h : GG xl pi bd bo ol o q w a) (e : xl 0 = []) : GG (va_up xl 0 (xl 0).tail) pi bd bo ol o q w a ∧ q = [] := by
  obtain ⟨h1, h2, h3, h4⟩ := h
  rw [e] at h2
  refine ⟨⟨h1, ?_, h3, h4⟩, h2.symm⟩
  rw [va_up_self, e]
  exact h2
theorem GG_x3 {xl : Nat → List Nat} {pi : Nat → Nat → Int32} {bd : Nat → Nat} {bo : Nat → Nat → Int64} {ol : Option Nat} {o : Option S4} {q : List S3} {w : List S4} {a : List A6} {l : List Nat} (h : GG xl pi bd bo ol o q w a) : GG (va_up xl 3 l) pi bd bo ol o q w a := h
theorem GG_tks1 {xl : Nat → List Nat} {pi : Nat → Nat → Int32} {bd : Nat → Nat} {bo : Nat → Nat → Int64} {ol : Option Nat} {o : Option S4} {q : List S3} {w : List S4} {a : List A6} {z : Nat} {t : List Nat} (h : GG xl pi bd bo ol o q w a) (e : xl 1 = z :: t) : GG (va_up xl 1 (xl 1).tail) pi bd bo ol o q w.tail a ∧ w = cs pi z :: w.tail := by
  obtain ⟨h1, h2, h3, h4⟩ := h
  rw [e, List.map_cons] at h3
  subst h3
  refine ⟨⟨h1, h2, ?_, h4⟩, rfl⟩
  rw [va_up_self, e]
  rfl
theorem GG_tks2 {xl : Nat → List Nat} {pi : Nat → Nat → Int32} {bd : Nat → Nat} {bo : Nat → Nat → Int64} {ol : Option Nat} {o : Option S4} {q : List S3} {w : List S4} {a : List A6} {z : Nat} {t : List Nat} (h : GG xl pi bd bo ol o q w a) (e : xl 2 = z :: t) : GG (va_up xl 2 (xl 2).tail) pi bd bo ol o q w a.tail ∧ a = ca pi bd bo z :: a.tail := by
  obtain ⟨h1, h2, h3, h4⟩ := h
  rw [e, List.map_cons] at h4
  subst h4
  refine ⟨⟨h1, h2, h3, ?_⟩, rfl⟩
  rw [va_up_self, e]
  rfl
theorem GG_put1 {xl : Nat → List Nat} {pi : Nat → Nat → Int32} {bd : Nat → Nat} {bo : Nat → Nat → Int64} {ol : Option Nat} {o : Option S4} {q : List S3} {w : List S4} {a : List A6} {z : Nat} {ys zs : List Nat} (h : GG xl pi bd bo ol o q w a) (hs : Srt (dz pi (xl 1))) (e : xl 1 = ys ++ zs) (ho : (∀ b, ys.getLast? = some b → pi 0 b ≤ pi 0 z) ∧ ∀ c, zs.head? = some c → pi 0 z < pi 0 c) : GG (va_up xl 1 (ys ++ z :: zs)) pi bd bo ol o q (insS (cs pi z) w) a := by
  obtain ⟨h1, h2, h3, h4⟩ := h
  refine ⟨h1, h2, ?_, h4⟩
  rw [va_up_self, ← h3, e, List.map_append, List.map_append, List.map_cons]
  rw [e] at hs
  have hs2 : Srt (dz pi ys) := by
    have := hs
    unfold Srt at this ⊢
    rw [show dz pi (ys ++ zs) = dz pi ys ++ dz pi zs from List.map_append ..] at this
    exact (List.pairwise_append.mp this).1
  refine (insS_mid (fun d hd => ?_) (fun d hd => ?_)).symm
  · obtain ⟨y, hy, ey⟩ := List.mem_map.mp hd
    rw [← ey]
    exact srt_le hs2 (fun b hb => by
      rw [List.getLast?_map] at hb
      cases hl : ys.getLast? with
      | none => rw [hl] at hb; cases hb
      | some b0 => rw [hl] at hb; rw [← (Option.some.inj hb : pi 0 b0 = b)]; exact ho.1 b0 hl) (pi 0 y) (List.mem_map_of_mem hy)
  · rw [List.head?_map] at hd
    cases hz : zs.head? with
    | none => rw [hz] at hd; cases hd
    | some c0 => rw [hz] at hd; rw [← (Option.some.inj hd : cs pi c0 = d)]; exact ho.2 c0 hz
theorem GG_put2 {xl : Nat → List Nat} {pi : Nat → Nat → Int32} {bd : Nat → Nat} {bo : Nat → Nat → Int64} {ol : Option Nat} {o : Option S4} {q : List S3} {w : List S4} {a : List A6} {z : Nat} {ys zs : List Nat} (h : GG xl pi bd bo ol o q w a) (hs : Srt (dz pi (xl 2))) (e : xl 2 = ys ++ zs) (ho : (∀ b, ys.getLast? = some b → pi 0 b ≤ pi 0 z) ∧ ∀ c, zs.head? = some c → pi 0 z < pi 0 c) : GG (va_up xl 2 (ys ++ z :: zs)) pi bd bo ol o q w (insA (ca pi bd bo z) a) := by
  obtain ⟨h1, h2, h3, h4⟩ := h
  refine ⟨h1, h2, h3, ?_⟩
  rw [va_up_self, ← h4, e, List.map_append, List.map_append, List.map_cons]
  rw [e] at hs
  have hs2 : Srt (dz pi ys) := by
    have := hs
    unfold Srt at this ⊢
    rw [show dz pi (ys ++ zs) = dz pi ys ++ dz pi zs from List.map_append ..] at this
    exact (List.pairwise_append.mp this).1
  refine (insA_mid (fun d hd => ?_) (fun d hd => ?_)).symm
  · obtain ⟨y, hy, ey⟩ := List.mem_map.mp hd
    rw [← ey]
    exact srt_le hs2 (fun b hb => by
      rw [List.getLast?_map] at hb
      cases hl : ys.getLast? with
      | none => rw [hl] at hb; cases hb
      | some b0 => rw [hl] at hb; rw [← (Option.some.inj hb : pi 0 b0 = b)]; exact ho.1 b0 hl) (pi 0 y) (List.mem_map_of_mem hy)
  · rw [List.head?_map] at hd
    cases hz : zs.head? with
    | none => rw [hz] at hd; cases hd
    | some c0 => rw [hz] at hd; rw [← (Option.some.inj hd : ca pi bd bo c0 = d)]; exact ho.2 c0 hz
