/-- put in by dues, one after another -/
def srtS (l : List S4) : List S4 := l.foldl (fun acc e => insS e acc) []
def srtA (l : List A6) : List A6 := l.foldl (fun acc e => insA e acc) []
theorem srtS_snoc {l : List S4} {e : S4} : srtS (l ++ [e]) = insS e (srtS l) := by
  unfold srtS
  rw [List.foldl_append]
  rfl
theorem srtA_snoc {l : List A6} {e : A6} : srtA (l ++ [e]) = insA e (srtA l) := by
  unfold srtA
  rw [List.foldl_append]
  rfl
theorem insS_pre {e : S4} {q : List S4} : ∀ {p : List S4}, (∀ x, x ∈ p → x.1 ≤ e.1) → insS e (p ++ q) = p ++ insS e q
  | [], _ => rfl
  | x :: p, h => by
    show insS e (x :: (p ++ q)) = x :: (p ++ insS e q)
    rw [insS, if_pos (h x (List.mem_cons_self ..)), insS_pre (fun y hy => h y (List.mem_cons_of_mem _ hy))]
theorem insA_pre {e : A6} {q : List A6} : ∀ {p : List A6}, (∀ x, x ∈ p → x.1 ≤ e.1) → insA e (p ++ q) = p ++ insA e q
  | [], _ => rfl
  | x :: p, h => by
    show insA e (x :: (p ++ q)) = x :: (p ++ insA e q)
    rw [insA, if_pos (h x (List.mem_cons_self ..)), insA_pre (fun y hy => h y (List.mem_cons_of_mem _ hy))]
theorem insS_mem {e x : S4} : ∀ {l : List S4}, x ∈ insS e l ↔ (x = e ∨ x ∈ l)
  | [] => by
    rw [insS]
    simp
  | d :: t => by
    rw [insS]
    by_cases h : d.1 ≤ e.1
    · rw [if_pos h, List.mem_cons, insS_mem, List.mem_cons]
      constructor
      · rintro (a | a | a)
        · exact Or.inr (Or.inl a)
        · exact Or.inl a
        · exact Or.inr (Or.inr a)
      · rintro (a | a | a)
        · exact Or.inr (Or.inl a)
        · exact Or.inl a
        · exact Or.inr (Or.inr a)
    · rw [if_neg h, List.mem_cons]
theorem insA_mem {e x : A6} : ∀ {l : List A6}, x ∈ insA e l ↔ (x = e ∨ x ∈ l)
  | [] => by
    rw [insA]
    simp
  | d :: t => by
    rw [insA]
    by_cases h : d.1 ≤ e.1
    · rw [if_pos h, List.mem_cons, insA_mem, List.mem_cons]
      constructor
      · rintro (a | a | a)
        · exact Or.inr (Or.inl a)
        · exact Or.inl a
        · exact Or.inr (Or.inr a)
      · rintro (a | a | a)
        · exact Or.inr (Or.inl a)
        · exact Or.inl a
        · exact Or.inr (Or.inr a)
    · rw [if_neg h, List.mem_cons]
theorem srtS_mem {x : S4} (l : List S4) : x ∈ srtS l ↔ x ∈ l := by
  have key : ∀ (r : List S4), x ∈ srtS r.reverse ↔ x ∈ r := by
    intro r
    induction r with
    | nil => exact Iff.rfl
    | cons e t ih =>
      rw [List.reverse_cons, srtS_snoc, insS_mem, ih, List.mem_cons]
  have := key l.reverse
  rw [List.reverse_reverse, List.mem_reverse] at this
  exact this
theorem srtA_mem {x : A6} (l : List A6) : x ∈ srtA l ↔ x ∈ l := by
  have key : ∀ (r : List A6), x ∈ srtA r.reverse ↔ x ∈ r := by
    intro r
    induction r with
    | nil => exact Iff.rfl
    | cons e t ih =>
      rw [List.reverse_cons, srtA_snoc, insA_mem, ih, List.mem_cons]
  have := key l.reverse
  rw [List.reverse_reverse, List.mem_reverse] at this
  exact this
theorem insS_len {e : S4} : ∀ {l : List S4}, (insS e l).length = l.length + 1
  | [] => rfl
  | d :: t => by
    rw [insS]
    by_cases h : d.1 ≤ e.1
    · rw [if_pos h, List.length_cons, insS_len, List.length_cons]
    · rw [if_neg h, List.length_cons]
theorem insA_len {e : A6} : ∀ {l : List A6}, (insA e l).length = l.length + 1
  | [] => rfl
  | d :: t => by
    rw [insA]
    by_cases h : d.1 ≤ e.1
    · rw [if_pos h, List.length_cons, insA_len, List.length_cons]
    · rw [if_neg h, List.length_cons]
/-- what is due now stands first, in its order -/
theorem srtS_split {t : Int32} (l : List S4) (h : ∀ e, e ∈ l → t ≤ e.1) : srtS l = l.filter (fun e => decide (e.1 = t)) ++ srtS (l.filter (fun e => ! decide (e.1 = t))) := by
  have key : ∀ (r : List S4), (∀ e, e ∈ r → t ≤ e.1) → srtS r.reverse = r.reverse.filter (fun e => decide (e.1 = t)) ++ srtS (r.reverse.filter (fun e => ! decide (e.1 = t))) := by
    intro r
    induction r with
    | nil => intro _; rfl
    | cons e r ih =>
      intro hh
      have hr : ∀ x, x ∈ r → t ≤ x.1 := fun x hx => hh x (List.mem_cons_of_mem _ hx)
      have he := hh e (List.mem_cons_self ..)
      rw [List.reverse_cons, srtS_snoc, ih hr, List.filter_append, List.filter_append]
      have hp : ∀ x, x ∈ r.reverse.filter (fun e => decide (e.1 = t)) → x.1 ≤ e.1 := fun x hx => by
        have := (List.mem_filter.mp hx).2
        rw [of_decide_eq_true this]
        exact he
      rw [insS_pre hp]
      by_cases c : e.1 = t
      · have f1 : [e].filter (fun e => decide (e.1 = t)) = [e] := by simp [c]
        have f2 : [e].filter (fun e => ! decide (e.1 = t)) = [] := by simp [c]
        rw [f1, f2, List.append_nil, List.append_assoc]
        congr 1
        have hq : ∀ x, x ∈ srtS (r.reverse.filter (fun e => ! decide (e.1 = t))) → ¬ x.1 ≤ e.1 := fun x hx w => by
          have h1 := (List.mem_filter.mp ((srtS_mem _).mp hx))
          have h2 : x.1 ≠ t := by simpa using h1.2
          have h3 := hr x (List.mem_reverse.mp h1.1)
          rw [c] at w
          exact h2 (Int32.le_antisymm w h3)
        cases hz : srtS (r.reverse.filter (fun e => ! decide (e.1 = t))) with
        | nil => rfl
        | cons d q =>
          rw [insS, if_neg (hq d (by rw [hz]; exact List.mem_cons_self ..))]
          rfl
      · have f1 : [e].filter (fun e => decide (e.1 = t)) = [] := by simp [c]
        have f2 : [e].filter (fun e => ! decide (e.1 = t)) = [e] := by simp [c]
        rw [f1, f2, List.append_nil, srtS_snoc]
  have := key l.reverse (fun e he => h e (List.mem_reverse.mp he))
  rw [List.reverse_reverse] at this
  exact this
theorem srtA_split {t : Int32} (l : List A6) (h : ∀ e, e ∈ l → t ≤ e.1) : srtA l = l.filter (fun e => decide (e.1 = t)) ++ srtA (l.filter (fun e => ! decide (e.1 = t))) := by
  have key : ∀ (r : List A6), (∀ e, e ∈ r → t ≤ e.1) → srtA r.reverse = r.reverse.filter (fun e => decide (e.1 = t)) ++ srtA (r.reverse.filter (fun e => ! decide (e.1 = t))) := by
    intro r
    induction r with
    | nil => intro _; rfl
    | cons e r ih =>
      intro hh
      have hr : ∀ x, x ∈ r → t ≤ x.1 := fun x hx => hh x (List.mem_cons_of_mem _ hx)
      have he := hh e (List.mem_cons_self ..)
      rw [List.reverse_cons, srtA_snoc, ih hr, List.filter_append, List.filter_append]
      have hp : ∀ x, x ∈ r.reverse.filter (fun e => decide (e.1 = t)) → x.1 ≤ e.1 := fun x hx => by
        have := (List.mem_filter.mp hx).2
        rw [of_decide_eq_true this]
        exact he
      rw [insA_pre hp]
      by_cases c : e.1 = t
      · have f1 : [e].filter (fun e => decide (e.1 = t)) = [e] := by simp [c]
        have f2 : [e].filter (fun e => ! decide (e.1 = t)) = [] := by simp [c]
        rw [f1, f2, List.append_nil, List.append_assoc]
        congr 1
        have hq : ∀ x, x ∈ srtA (r.reverse.filter (fun e => ! decide (e.1 = t))) → ¬ x.1 ≤ e.1 := fun x hx w => by
          have h1 := (List.mem_filter.mp ((srtA_mem _).mp hx))
          have h2 : x.1 ≠ t := by simpa using h1.2
          have h3 := hr x (List.mem_reverse.mp h1.1)
          rw [c] at w
          exact h2 (Int32.le_antisymm w h3)
        cases hz : srtA (r.reverse.filter (fun e => ! decide (e.1 = t))) with
        | nil => rfl
        | cons d q =>
          rw [insA, if_neg (hq d (by rw [hz]; exact List.mem_cons_self ..))]
          rfl
      · have f1 : [e].filter (fun e => decide (e.1 = t)) = [] := by simp [c]
        have f2 : [e].filter (fun e => ! decide (e.1 = t)) = [e] := by simp [c]
        rw [f1, f2, List.append_nil, srtA_snoc]
  have := key l.reverse (fun e he => h e (List.mem_reverse.mp he))
  rw [List.reverse_reverse] at this
  exact this
