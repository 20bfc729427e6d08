/-! the road's invariant: four chains (0 the queue, 1 the way, 2 the acks, 3 the spare ones), one parcel on the link; tag tells where a parcel is (5 on the link, 6 in the hand) -/
def RI (L : List Nat) (kd : Nat → Bool) (af : Nat → Option Nat) (tag : Nat → Nat) (cf cl : Nat → Option Nat) (xl : Nat → List Nat) (ol : Option Nat) : Prop :=
  (∀ i, i < 4 → ch af (cf i) (cl i) (xl i) ∧ (xl i).Nodup ∧ ∀ x ∈ xl i, x ∈ L ∧ kd x = false ∧ tag x = i) ∧ ∀ x, ol = some x → x ∈ L ∧ kd x = false ∧ tag x = 5
/-- the pool's boards, and whether a parcel is special -/
def PB (L : List Nat) (kd : Nat → Bool) (pi : Nat → Nat → Int32) (bd : Nat → Nat) : Prop := ∀ x ∈ L, kd x = false → bd x ∈ L ∧ kd (bd x) = true ∧ (pi 3 x = 0 ∨ pi 3 x = 1)
theorem ch_congr {af af2 : Nat → Option Nat} {fi la : Option Nat} {xs : List Nat} (h : ch af fi la xs) (e : ∀ a ∈ xs, af2 a = af a) : ch af2 fi la xs := ⟨h.1, h.2.1, lk_congr e h.2.2⟩
/-- a chain i takes a new list; its old members but z, and q out of the hand, are in it; what lies elsewhere keeps its links -/
theorem RI_set {L : List Nat} {kd : Nat → Bool} {af af2 : Nat → Option Nat} {tag tag2 : Nat → Nat} {cf cl : Nat → Option Nat} {xl : Nat → List Nat} {ol : Option Nat} {i : Nat} {fi la : Option Nat} {ys : List Nat} (h : RI L kd af tag cf cl xl ol) (hi : i < 4)
    (hc : ch af2 fi la ys) (hn : ys.Nodup) (hm : ∀ x ∈ ys, x ∈ L ∧ kd x = false ∧ tag2 x = i) (ho : ∀ x, tag x < 6 → tag x ≠ i → af2 x = af x ∧ tag2 x = tag x) : RI L kd af2 tag2 (va_up cf i fi) (va_up cl i la) (va_up xl i ys) ol := by
  refine ⟨fun j hj => ?_, fun x hx => ?_⟩
  · by_cases e : j = i
    · subst e
      rw [va_up_self, va_up_self, va_up_self]
      exact ⟨hc, hn, hm⟩
    · rw [va_up_ne _ _ e, va_up_ne _ _ e, va_up_ne _ _ e]
      obtain ⟨h1, h2, h3⟩ := h.1 j hj
      refine ⟨ch_congr h1 (fun a ha => (ho a (by rw [(h3 a ha).2.2]; omega) (by rw [(h3 a ha).2.2]; exact e)).1), h2, fun x hx => ⟨(h3 x hx).1, (h3 x hx).2.1, ?_⟩⟩
      rw [(ho x (by rw [(h3 x hx).2.2]; omega) (by rw [(h3 x hx).2.2]; exact e)).2]
      exact (h3 x hx).2.2
  · obtain ⟨h1, h2, h3⟩ := h.2 x hx
    refine ⟨h1, h2, ?_⟩
    rw [(ho x (by omega) (by omega)).2]
    exact h3
theorem tag_ne {tag : Nat → Nat} {x q i : Nat} (h : tag x < 6) (hq : tag q = 6) : x ≠ q := fun e => by rw [e, hq] at h; exact absurd h (by decide)
/-- q of the hand behind chain i -/
theorem RI_append {L : List Nat} {kd : Nat → Bool} {af : Nat → Option Nat} {tag : Nat → Nat} {cf cl : Nat → Option Nat} {xl : Nat → List Nat} {ol : Option Nat} {i q : Nat} (h : RI L kd af tag cf cl xl ol) (hi : i < 4) (m_q : q ∈ L) (k_q : kd q = false) (t_q : tag q = 6) :
    RI L kd (ap_af af (cl i) q) (va_up tag q i) (va_up cf i (ap_fi (cl i) (cf i) q)) (va_up cl i (some q)) (va_up xl i (xl i ++ [q])) ol := by
  obtain ⟨h1, h2, h3⟩ := h.1 i hi
  have hq : q ∉ xl i := fun m => by have := (h3 q m).2.2; omega
  refine RI_set h hi (ch_append h1 h2 hq) ?_ (fun x hx => ?_) (fun x hx hxi => ?_)
  · exact List.nodup_append.mpr ⟨h2, by simp, fun a ha b hb => by rw [List.mem_singleton.mp hb]; exact fun e => hq (e ▸ ha)⟩
  · rcases List.mem_append.mp hx with hx | hx
    · refine ⟨(h3 x hx).1, (h3 x hx).2.1, ?_⟩
      have hne : x ≠ q := fun e => hq (e ▸ hx)
      rw [va_up_ne _ _ hne]
      exact (h3 x hx).2.2
    · rw [List.mem_singleton.mp hx]
      exact ⟨m_q, k_q, va_up_self _ _ _⟩
  · have hne : x ≠ q := fun e => by rw [e, t_q] at hx; exact absurd hx (by decide)
    exact ⟨ap_out h1 (fun m => hxi (h3 x m).2.2) hne, va_up_ne _ _ hne⟩
/-- q of the hand into chain i, by its due -/
theorem RI_put {L : List Nat} {kd : Nat → Bool} {af af2 : Nat → Option Nat} {tag : Nat → Nat} {cf cl : Nat → Option Nat} {xl : Nat → List Nat} {ol fi la : Option Nat} {i q : Nat} {ys zs : List Nat} (h : RI L kd af tag cf cl xl ol) (hi : i < 4) (m_q : q ∈ L) (k_q : kd q = false) (t_q : tag q = 6)
    (hf : xl i = ys ++ zs ∧ ch af2 fi la (ys ++ q :: zs) ∧ ∀ a, a ∉ xl i → a ≠ q → af2 a = af a) : RI L kd af2 (va_up tag q i) (va_up cf i fi) (va_up cl i la) (va_up xl i (ys ++ q :: zs)) ol := by
  obtain ⟨h1, h2, h3⟩ := h.1 i hi
  obtain ⟨e1, e2, e3⟩ := hf
  have hq : q ∉ xl i := fun m => by have := (h3 q m).2.2; omega
  have hp : (ys ++ q :: zs).Perm (q :: xl i) := by rw [e1]; exact List.perm_middle
  refine RI_set h hi e2 (hp.nodup_iff.mpr (List.nodup_cons.mpr ⟨hq, h2⟩)) (fun x hx => ?_) (fun x hx hxi => ?_)
  · rcases List.mem_cons.mp (hp.mem_iff.mp hx) with rfl | hx
    · exact ⟨m_q, k_q, va_up_self _ _ _⟩
    · refine ⟨(h3 x hx).1, (h3 x hx).2.1, ?_⟩
      have hne : x ≠ q := fun e => hq (e ▸ hx)
      rw [va_up_ne _ _ hne]
      exact (h3 x hx).2.2
  · have hne : x ≠ q := fun e => by rw [e, t_q] at hx; exact absurd hx (by decide)
    exact ⟨e3 x (fun m => hxi (h3 x m).2.2) hne, va_up_ne _ _ hne⟩
/-- the first of chain i into the hand -/
theorem RI_take {L : List Nat} {kd : Nat → Bool} {af : Nat → Option Nat} {tag : Nat → Nat} {cf cl : Nat → Option Nat} {xl : Nat → List Nat} {ol : Option Nat} {i z : Nat} (h : RI L kd af tag cf cl xl ol) (hi : i < 4) (hz : cf i = some z) :
    RI L kd (tk_af af (cf i)) (va_up tag z 6) (va_up cf i (tk_fi af (cf i))) (va_up cl i (tk_la af (cf i) (cl i))) (va_up xl i (xl i).tail) ol ∧ z ∈ L ∧ kd z = false ∧ ∃ t, xl i = z :: t := by
  obtain ⟨h1, h2, h3⟩ := h.1 i hi
  obtain ⟨e1, e2, e3⟩ := h1
  obtain ⟨t, ht⟩ : ∃ t, xl i = z :: t := by
    rw [hz] at e1
    cases hxl : xl i with
    | nil => rw [hxl] at e1; cases e1
    | cons a t => rw [hxl] at e1; cases e1; exact ⟨t, rfl⟩
  have hzm : z ∈ xl i := by rw [ht]; exact List.mem_cons_self
  refine ⟨?_, (h3 z hzm).1, (h3 z hzm).2.1, t, ht⟩
  rw [ht] at e2 e3 h2
  have hzt : z ∉ t := (List.nodup_cons.mp h2).1
  rw [hz]
  rw [ht, List.tail_cons]
  refine RI_set h hi (fi := tk_fi af (some z)) (la := tk_la af (some z) (cl i)) ⟨e3.1, ?_, lk_congr (fun a ha => va_up_ne _ _ (fun e => hzt (e ▸ ha))) e3.2⟩ (List.nodup_cons.mp h2).2 (fun x hx => ?_) (fun x hx hxi => ?_)
  · show (match af z with | none => none | some _ => cl i) = _
    rw [e3.1, e2]
    cases t with
    | nil => rfl
    | cons a t => rw [List.getLast?_cons_cons]; rfl
  · have hx2 : x ∈ xl i := by rw [ht]; exact List.mem_cons_of_mem _ hx
    refine ⟨(h3 x hx2).1, (h3 x hx2).2.1, ?_⟩
    have hne : x ≠ z := fun e => hzt (e ▸ hx)
    rw [va_up_ne _ _ hne]
    exact (h3 x hx2).2.2
  · have hne : x ≠ z := fun e => hxi (by rw [e]; exact (h3 z hzm).2.2)
    exact ⟨va_up_ne _ _ hne, va_up_ne _ _ hne⟩
/-- the link's parcel into the hand -/
theorem RI_off {L : List Nat} {kd : Nat → Bool} {af : Nat → Option Nat} {tag : Nat → Nat} {cf cl : Nat → Option Nat} {xl : Nat → List Nat} {z : Nat} (h : RI L kd af tag cf cl xl (some z)) : RI L kd af (va_up tag z 6) cf cl xl none ∧ z ∈ L ∧ kd z = false := by
  have hz := h.2 z rfl
  refine ⟨⟨fun j hj => ?_, fun x hx => by cases hx⟩, hz.1, hz.2.1⟩
  obtain ⟨h1, h2, h3⟩ := h.1 j hj
  refine ⟨h1, h2, fun x hx => ⟨(h3 x hx).1, (h3 x hx).2.1, ?_⟩⟩
  rw [va_up_ne _ _ (fun e => by have := (h3 x hx).2.2; rw [e, hz.2.2] at this; omega)]
  exact (h3 x hx).2.2
/-- a parcel of the hand onto the link -/
theorem RI_on {L : List Nat} {kd : Nat → Bool} {af : Nat → Option Nat} {tag : Nat → Nat} {cf cl : Nat → Option Nat} {xl : Nat → List Nat} {q : Nat} (h : RI L kd af tag cf cl xl none) (m_q : q ∈ L) (k_q : kd q = false) (t_q : tag q = 6) : RI L kd af (va_up tag q 5) cf cl xl (some q) := by
  refine ⟨fun j hj => ?_, fun x hx => by cases hx; exact ⟨m_q, k_q, va_up_self _ _ _⟩⟩
  obtain ⟨h1, h2, h3⟩ := h.1 j hj
  refine ⟨h1, h2, fun x hx => ⟨(h3 x hx).1, (h3 x hx).2.1, ?_⟩⟩
  rw [va_up_ne _ _ (fun e => by have := (h3 x hx).2.2; rw [e, t_q] at this; omega)]
  exact (h3 x hx).2.2
/-- two cells more in the pool -/
theorem RI_more {L L2 : List Nat} {kd kd2 : Nat → Bool} {af af2 : Nat → Option Nat} {tag tag2 : Nat → Nat} {cf cl : Nat → Option Nat} {xl : Nat → List Nat} {ol : Option Nat} (h : RI L kd af tag cf cl xl ol) (e : ∀ x ∈ L, x ∈ L2 ∧ kd2 x = kd x ∧ af2 x = af x ∧ tag2 x = tag x) : RI L2 kd2 af2 tag2 cf cl xl ol := by
  refine ⟨fun j hj => ?_, fun x hx => ?_⟩
  · obtain ⟨h1, h2, h3⟩ := h.1 j hj
    refine ⟨ch_congr h1 (fun a ha => (e a (h3 a ha).1).2.2.1), h2, fun x hx => ?_⟩
    have g := e x (h3 x hx).1
    exact ⟨g.1, by rw [g.2.1]; exact (h3 x hx).2.1, by rw [g.2.2.2]; exact (h3 x hx).2.2⟩
  · have g := e x (h.2 x hx).1
    exact ⟨g.1, by rw [g.2.1]; exact (h.2 x hx).2.1, by rw [g.2.2.2]; exact (h.2 x hx).2.2⟩
theorem RI_fi {L : List Nat} {kd : Nat → Bool} {af : Nat → Option Nat} {tag : Nat → Nat} {cf cl : Nat → Option Nat} {xl : Nat → List Nat} {ol : Option Nat} (h : RI L kd af tag cf cl xl ol) {i : Nat} (hi : i < 4) : ∀ z, cf i = some z → z ∈ L ∧ kd z = false := fun z e => by
  obtain ⟨h1, h2, h3⟩ := h.1 i hi
  have g := h3 z (List.mem_of_head? (h1.1.symm.trans e))
  exact ⟨g.1, g.2.1⟩
theorem RI_la {L : List Nat} {kd : Nat → Bool} {af : Nat → Option Nat} {tag : Nat → Nat} {cf cl : Nat → Option Nat} {xl : Nat → List Nat} {ol : Option Nat} (h : RI L kd af tag cf cl xl ol) {i : Nat} (hi : i < 4) : ∀ z, cl i = some z → z ∈ L ∧ kd z = false := fun z e => by
  obtain ⟨h1, h2, h3⟩ := h.1 i hi
  have g := h3 z (List.mem_of_getLast? (h1.2.1.symm.trans e))
  exact ⟨g.1, g.2.1⟩
theorem RI_cl {L : List Nat} {kd : Nat → Bool} {af : Nat → Option Nat} {tag : Nat → Nat} {cf cl : Nat → Option Nat} {xl : Nat → List Nat} {ol : Option Nat} (h : RI L kd af tag cf cl xl ol) {i : Nat} (hi : i < 4) : ∀ a, cf i = some a → ∀ b, af a = some b → b ∈ L ∧ kd b = false := fun a e b eb => by
  obtain ⟨h1, h2, h3⟩ := h.1 i hi
  obtain ⟨e1, e2, e3⟩ := h1
  rw [e] at e1
  cases hxl : xl i with
  | nil => rw [hxl] at e1; cases e1
  | cons x t =>
    rw [hxl] at e1 e3
    cases e1
    have g := h3 b (by rw [hxl]; exact List.mem_cons_of_mem _ (List.mem_of_head? (e3.1.symm.trans eb)))
    exact ⟨g.1, g.2.1⟩
def tk_tag (tag : Nat → Nat) (fi : Option Nat) : Nat → Nat := match fi with
  | none => tag
  | some z => va_up tag z 6
/-- the first of chain i, if there is one, into the hand -/
theorem RI_tk {L : List Nat} {kd : Nat → Bool} {af : Nat → Option Nat} {tag : Nat → Nat} {cf cl : Nat → Option Nat} {xl : Nat → List Nat} {ol : Option Nat} {i : Nat} (h : RI L kd af tag cf cl xl ol) (hi : i < 4) :
    RI L kd (tk_af af (cf i)) (tk_tag tag (cf i)) (va_up cf i (tk_fi af (cf i))) (va_up cl i (tk_la af (cf i) (cl i))) (va_up xl i (xl i).tail) ol := by
  cases hz : cf i with
  | some z =>
    have g := (RI_take h hi hz).1
    rw [hz] at g
    exact g
  | none =>
    obtain ⟨h1, h2, h3⟩ := h.1 i hi
    have hx : xl i = [] := by
      have e1 := h1.1
      rw [hz] at e1
      cases hxl : xl i with
      | nil => rfl
      | cons a t => rw [hxl] at e1; cases e1
    rw [hx]
    exact RI_set h hi (fi := none) (la := none) (ys := []) ⟨rfl, rfl, trivial⟩ List.nodup_nil (fun x hx => absurd hx List.not_mem_nil) (fun x _ _ => ⟨rfl, rfl⟩)
theorem RI_hd {L : List Nat} {kd : Nat → Bool} {af : Nat → Option Nat} {tag : Nat → Nat} {cf cl : Nat → Option Nat} {xl : Nat → List Nat} {ol : Option Nat} {i z : Nat} (h : RI L kd af tag cf cl xl ol) (hi : i < 4) (hz : cf i = some z) : z ∈ L ∧ kd z = false ∧ ∃ t, xl i = z :: t := (RI_take h hi hz).2
theorem RI_notin {L : List Nat} {kd : Nat → Bool} {af : Nat → Option Nat} {tag : Nat → Nat} {cf cl : Nat → Option Nat} {xl : Nat → List Nat} {ol : Option Nat} {i q : Nat} (h : RI L kd af tag cf cl xl ol) (hi : i < 4) (t_q : tag q = 6) : q ∉ xl i := fun m => by
  have := ((h.1 i hi).2.2 q m).2.2
  omega
theorem RI_mem {L : List Nat} {kd : Nat → Bool} {af : Nat → Option Nat} {tag : Nat → Nat} {cf cl : Nat → Option Nat} {xl : Nat → List Nat} {ol : Option Nat} {i : Nat} (h : RI L kd af tag cf cl xl ol) (hi : i < 4) : ∀ x ∈ xl i, x ∈ L ∧ kd x = false := fun x hx => ⟨((h.1 i hi).2.2 x hx).1, ((h.1 i hi).2.2 x hx).2.1⟩
/-- the sizes that the chains tell -/
def ZN (zn : Nat → Int32) (xl : Nat → List Nat) : Prop := ∀ i, i < 4 → zn i = nI (xl i).length
theorem ZN_put {zn : Nat → Int32} {xl : Nat → List Nat} {j q : Nat} {ys zs : List Nat} (h : ZN zn xl) (hj : j < 4) (e : xl j = ys ++ zs) : ZN (va_up zn j (zn j + 1)) (va_up xl j (ys ++ q :: zs)) := fun i hi => by
  by_cases hij : i = j
  · subst hij
    rw [va_up_self, va_up_self, h i hi, nI_1, e]
    congr 1
    simp
    omega
  · rw [va_up_ne _ _ hij, va_up_ne _ _ hij]
    exact h i hi
theorem ZN_app {zn : Nat → Int32} {xl : Nat → List Nat} {j q : Nat} (h : ZN zn xl) (hj : j < 4) : ZN (va_up zn j (zn j + 1)) (va_up xl j (xl j ++ [q])) := fun i hi => by
  by_cases hij : i = j
  · subst hij
    rw [va_up_self, va_up_self, h i hi, nI_1]
    congr 1
    simp
  · rw [va_up_ne _ _ hij, va_up_ne _ _ hij]
    exact h i hi
theorem ZN_tk {L : List Nat} {kd : Nat → Bool} {af : Nat → Option Nat} {tag : Nat → Nat} {cf cl : Nat → Option Nat} {xl : Nat → List Nat} {ol : Option Nat} {zn : Nat → Int32} {j : Nat} (h : ZN zn xl) (hR : RI L kd af tag cf cl xl ol) (hj : j < 4) : ZN (va_up zn j (tk_n (cf j) (zn j))) (va_up xl j (xl j).tail) := fun i hi => by
  by_cases hij : i = j
  · subst hij
    rw [va_up_self, va_up_self]
    cases hz : cf i with
    | none =>
      have e1 := (hR.1 i hi).1.1
      rw [hz] at e1
      show zn i = _
      rw [h i hi]
      cases hxl : xl i with
      | nil => rfl
      | cons a t => rw [hxl] at e1; cases e1
    | some z =>
      obtain ⟨-, -, t, ht⟩ := RI_hd hR hi hz
      show zn i - 1 = _
      rw [h i hi, ht]
      exact nI_pred _
  · rw [va_up_ne _ _ hij, va_up_ne _ _ hij]
    exact h i hi
theorem PB_due {L : List Nat} {kd : Nat → Bool} {pi : Nat → Nat → Int32} {bd : Nat → Nat} {k a : Nat} {x : Int32} (h : PB L kd pi bd) (hk : k ≠ 3) : PB L kd (upp pi k a x) bd := fun y hy hk2 => by
  obtain ⟨h1, h2, h3⟩ := h y hy hk2
  refine ⟨h1, h2, ?_⟩
  show (if 3 = k then _ else pi 3 y) = 0 ∨ (if 3 = k then _ else pi 3 y) = 1
  rw [if_neg (Ne.symm hk)]
  exact h3
theorem PB_spec {L : List Nat} {kd : Nat → Bool} {pi : Nat → Nat → Int32} {bd : Nat → Nat} {a : Nat} {x : Int32} (h : PB L kd pi bd) (hx : x = 0 ∨ x = 1) : PB L kd (upp pi 3 a x) bd := fun y hy hk2 => by
  obtain ⟨h1, h2, h3⟩ := h y hy hk2
  refine ⟨h1, h2, ?_⟩
  show (if 3 = 3 then (if y = a then x else pi 3 y) else pi 3 y) = 0 ∨ (if 3 = 3 then (if y = a then x else pi 3 y) else pi 3 y) = 1
  rw [if_pos rfl]
  by_cases e : y = a
  · rw [if_pos e]; exact hx
  · rw [if_neg e]; exact h3
/-- a new parcel q with its board w, in the hand -/
theorem RI_born {L : List Nat} {kd : Nat → Bool} {af : Nat → Option Nat} {tag : Nat → Nat} {cf cl : Nat → Option Nat} {xl : Nat → List Nat} {ol : Option Nat} {q w : Nat} (h : RI L kd af tag cf cl xl ol) (h1 : q ∉ L) (h2 : w ∉ L) : RI (L ++ [q, w]) (va_up (va_up kd q false) w true) (va_up af q none) (va_up tag q 6) cf cl xl ol := by
  refine RI_more h (fun x hx => ?_)
  have n1 : x ≠ q := fun e => h1 (e ▸ hx)
  have n2 : x ≠ w := fun e => h2 (e ▸ hx)
  exact ⟨List.mem_append_left _ hx, by rw [va_up_ne _ _ n2, va_up_ne _ _ n1], va_up_ne _ _ n1, va_up_ne _ _ n1⟩
theorem PB_born {L : List Nat} {kd : Nat → Bool} {pi : Nat → Nat → Int32} {bd : Nat → Nat} {q w : Nat} (h : PB L kd pi bd) (h1 : q ∉ L) (h2 : w ∉ L) (h3 : q ≠ w) : PB (L ++ [q, w]) (va_up (va_up kd q false) w true) (fun k => va_up (pi k) q 0) (va_up bd q w) := by
  intro x hx hk
  by_cases e2 : x = w
  · rw [e2, va_up_self] at hk
    cases hk
  · by_cases e1 : x = q
    · subst e1
      refine ⟨by rw [va_up_self]; simp, by rw [va_up_self, va_up_self], Or.inl (va_up_self _ _ _)⟩
    · rw [va_up_ne _ _ e2, va_up_ne _ _ e1] at hk
      have hxL : x ∈ L := by
        rcases List.mem_append.mp hx with m | m
        · exact m
        · simp [e1, e2] at m
      obtain ⟨g1, g2, g3⟩ := h x hxL hk
      have n1 : bd x ≠ q := fun e => h1 (e ▸ g1)
      have n2 : bd x ≠ w := fun e => h2 (e ▸ g1)
      refine ⟨by rw [va_up_ne _ _ e1]; exact List.mem_append_left _ g1, by rw [va_up_ne _ _ e1, va_up_ne _ _ n2, va_up_ne _ _ n1]; exact g2, ?_⟩
      show va_up (pi 3) q 0 x = 0 ∨ va_up (pi 3) q 0 x = 1
      rw [va_up_ne _ _ e1]
      exact g3
