theorem nw_of {args : Array Value} {s : State} (hts : ∀ w ∈ lw_tbl, w.before args s = true) : nw s :=
  ⟨fun q hq => va_Nw.of rfl (hts _ (lw_memL (ws := nwF.map (fun q => Cond.fieldLinkNest q.1 q.2.1 q.2.2.1 q.2.2.2.1 q.2.2.2.2.1 q.2.2.2.2.2)) [(2, 221), (2, 206), (2, 94), (2, 96), (1, 61), (1, 231), (1, 53), (1, 38), (1, 65), (2, 209), (1, 57), (1, 55), (2, 68), (2, 2), (1, 151), (2, 210), (2, 214), (2, 207), (1, 37), (2, 208), (2, 212), (2, 215), (2, 55), (2, 58), (2, 60), (2, 217), (2, 62), (2, 220), (2, 211), (2, 216), (2, 213), (2, 219), (1, 150), (1, 153), (1, 144), (1, 145), (1, 147), (1, 206), (1, 208), (1, 187)] (by decide +kernel) _ (List.mem_map.mpr ⟨q, hq, rfl⟩))),
   fun q hq => va_Nw.of rfl (hts _ (lw_memL (ws := nwM.map (fun q => Cond.methodLinkNest q.1 q.2.1 q.2.2.1 q.2.2.2)) [(1, 176), (1, 24), (2, 53), (1, 30), (2, 202), (1, 139), (1, 170), (1, 201)] (by decide +kernel) _ (List.mem_map.mpr ⟨q, hq, rfl⟩))),
   va_AO.of (hts (.arrayOver (.object RX3)) (lw_sub_in 1 _ (List.mem_of_getElem? (i := 99) (by decide +kernel))))⟩
theorem arr_of {args : Array Value} {s : State} {ty : FieldType} (hty : ty = .int ∨ ty = .long ∨ ty = .boolean) (h : (Cond.arrayClass ty).before args s = true) : ∃ c : ClassId, ArrOfT s c ty ∧ va_RA s c ty := by
  obtain ⟨c, k, comp, h1, h2, h3⟩ := Cond.arrayClass_spec h
  refine ⟨c, fun n z => ⟨(fun k h => by cases h), k, h2, comp, h3⟩, ?_⟩
  rcases hty with rfl | rfl | rfl <;> exact h1
theorem arr_ofO {args : Array Value} {s : State} {C : String} (h : (Cond.arrayOver (.object C)).before args s = true) : ∃ c : ClassId, ArrOfT s c (.object C) ∧ va_RA s c (.object C) := by
  obtain ⟨comp, c, k, h1, -, h3, h4, h5⟩ := Cond.arrayOver_spec h
  exact ⟨c, fun n z => ⟨(fun k h => by cases h), k, h3, comp, h4⟩, k, comp, h3, h4, h1, h5⟩
theorem pw_K {args : Array Value} {s : State} (hts : ∀ w ∈ lw_tbl, w.before args s = true) : ∃ (D : va_G) (cI cJ cZ cO : ClassId), va_K D vwCl (pw_ty cI cJ cZ cO) s := by
  have h : ∀ k : Nat, ∃ x : ClassId × (Nat → Nat), ∀ q : vw_C, vwCl[k]? = some q → u_Kn s q.1 q.2.1 q.2.2 x.1 x.2 := by
    intro k
    match k with
    | 0 =>
      obtain ⟨c, i, hk⟩ := u_known (C := RX0) (T := TX0) (N := 4) (n := 4) hts inX0 (hts (.instantiable RX0 4) (lw_sub_in 1 _ (List.mem_of_getElem? (i := 169) (by decide +kernel))))
      exact ⟨(c, i), fun q hq => by cases hq; exact hk⟩
    | 1 =>
      obtain ⟨c, i, hk⟩ := u_known (C := RX1) (T := TX1) (N := 3) (n := 3) hts inX1 (hts (.instantiable RX1 3) (lw_sub_in 1 _ (List.mem_of_getElem? (i := 29) (by decide +kernel))))
      exact ⟨(c, i), fun q hq => by cases hq; exact hk⟩
    | 2 =>
      obtain ⟨c, i, hk⟩ := u_known (C := RX2) (T := TX2) (N := 5) (n := 5) hts inX2 (hts (.instantiable RX2 5) (lw_sub_in 1 _ (List.mem_of_getElem? (i := 200) (by decide +kernel))))
      exact ⟨(c, i), fun q hq => by cases hq; exact hk⟩
    | 3 =>
      obtain ⟨c, i, hk⟩ := u_known (C := RX3) (T := TX3) (N := 2) (n := 2) hts inX3 (hts (.instantiable RX3 2) (lw_sub_in 1 _ (List.mem_of_getElem? (i := 125) (by decide +kernel))))
      exact ⟨(c, i), fun q hq => by cases hq; exact hk⟩
    | 4 =>
      obtain ⟨c, i, hk⟩ := u_known (C := RX4) (T := TX4) (N := 1) (n := 1) hts inX4 (hts (.instantiable RX4 1) (lw_sub_in 1 _ (List.mem_of_getElem? (i := 175) (by decide +kernel))))
      exact ⟨(c, i), fun q hq => by cases hq; exact hk⟩
    | 5 =>
      obtain ⟨c, i, hk⟩ := u_known (C := RX5) (T := TX5) (N := 7) (n := 7) hts inX5 (hts (.instantiable RX5 7) (lw_sub_in 2 _ (List.mem_of_getElem? (i := 201) (by decide +kernel))))
      exact ⟨(c, i), fun q hq => by cases hq; exact hk⟩
    | 6 =>
      obtain ⟨c, i, hk⟩ := u_known (C := RX6) (T := TX6) (N := 11) (n := 11) hts inX6 (hts (.instantiable RX6 11) (lw_sub_in 2 _ (List.mem_of_getElem? (i := 47) (by decide +kernel))))
      exact ⟨(c, i), fun q hq => by cases hq; exact hk⟩
    | 7 =>
      obtain ⟨c, i, hk⟩ := u_known (C := RX7) (T := TX7) (N := 15) (n := 15) hts inX7 (hts (.instantiable RX7 15) (lw_sub_in 1 _ (List.mem_of_getElem? (i := 23) (by decide +kernel))))
      exact ⟨(c, i), fun q hq => by cases hq; exact hk⟩
    | 8 =>
      obtain ⟨c, i, hk⟩ := u_known (C := RX8) (T := TX8) (N := 20) (n := 20) hts inX8 (hts (.instantiable RX8 20) (lw_sub_in 1 _ (List.mem_of_getElem? (i := 131) (by decide +kernel))))
      exact ⟨(c, i), fun q hq => by cases hq; exact hk⟩
    | 9 =>
      obtain ⟨c, i, hk⟩ := u_known (C := RX9) (T := TX9) (N := 6) (n := 6) hts inX9 (hts (.instantiable RX9 6) (lw_sub_in 1 _ (List.mem_of_getElem? (i := 138) (by decide +kernel))))
      exact ⟨(c, i), fun q hq => by cases hq; exact hk⟩
    | 10 =>
      obtain ⟨c, i, hk⟩ := u_known (C := RX10) (T := TX10) (N := 3) (n := 3) hts inX10 (hts (.instantiable RX10 3) (lw_sub_in 1 _ (List.mem_of_getElem? (i := 15) (by decide +kernel))))
      exact ⟨(c, i), fun q hq => by cases hq; exact hk⟩
    | 11 =>
      obtain ⟨c, i, hk⟩ := u_known (C := RX11) (T := TX11) (N := 74) (n := 74) hts inX11 (hts (.instantiable RX11 74) (lw_sub_in 4 _ (List.mem_of_getElem? (i := 31) (by decide +kernel))))
      exact ⟨(c, i), fun q hq => by cases hq; exact hk⟩
    | k + 12 => exact ⟨(0, fun _ => 0), fun q hq => by simp [vwCl] at hq⟩
  obtain ⟨cI, h1, h2⟩ := arr_of (ty := .int) (Or.inl rfl) (hts (.arrayClass .int) (lw_sub_in 1 _ (List.mem_of_getElem? (i := 97) (by decide +kernel))))
  obtain ⟨cJ, h3, h4⟩ := arr_of (ty := .long) (Or.inr (Or.inl rfl)) (hts (.arrayClass .long) (lw_sub_in 1 _ (List.mem_of_getElem? (i := 184) (by decide +kernel))))
  obtain ⟨cZ, h5, h6⟩ := arr_of (ty := .boolean) (Or.inr (Or.inr rfl)) (hts (.arrayClass .boolean) (lw_sub_in 5 _ (List.mem_of_getElem? (i := 20) (by decide +kernel))))
  obtain ⟨cO, h7, h8⟩ := arr_ofO (hts (.arrayOver (.object RX3)) (lw_sub_in 1 _ (List.mem_of_getElem? (i := 99) (by decide +kernel))))
  refine ⟨(fun k => (Classical.choose (h k)).1, fun k => (Classical.choose (h k)).2), cI, cJ, cZ, cO, fun k q hq => Classical.choose_spec (h k) q hq, ?_⟩
  intro k q hq
  match k with
  | 0 => cases hq; exact ⟨h1, h2⟩
  | 1 => cases hq; exact ⟨h3, h4⟩
  | 2 => cases hq; exact ⟨h5, h6⟩
  | 3 => cases hq; exact ⟨h7, h8⟩
  | k + 4 => simp [pw_ty] at hq
