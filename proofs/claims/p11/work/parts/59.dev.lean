set_option maxHeartbeats 4000000 in
set_option maxRecDepth 100000 in
theorem c_in (l : Launch) (D : va_G) (cI cJ cZ cO : ClassId) (sz : Nat) (n lo hi : Int32) : Met l yX11_in (wa yX11_in cX11_in 3 (some .boolean)) ({ frames := 0, cells := 0, slots := 0, locals := 0 }) (va_Pc [.int n, .int lo, .int hi] (pw_s D cI cJ cZ cO sz [])) (va_Qi (fun (r : Int32) (_ : Unit) => r = wi n lo hi) (fun (_ : Unit) (t : State) => pw_t D cI cJ cZ cO (va_A [] sz) [] t) (va_A [] sz)) 0 0 (va_A [] sz) := by
  refine Met.ofW (cc := cX11_in) (maxL := 3) (ret := (some .boolean)) (by decide) rfl ?_
  intro p e s m args below meth c s₁ B hml hv
  obtain ⟨rfl, hsz, hP, hK, hD0, hN⟩ := hv
  have hx := B.exec
  have hb := B.bytes
  have hr := B.returns
  have hts := atoms_spec (ws := (wa yX11_in cX11_in 3 (some .boolean))) B.pre
  have ha : ∀ w ∈ wsL_law, w.before _ s = true := fun w h => hts w (List.mem_cons_of_mem _ h)
  have hown : s.vm.findClass RX11 = some m.cls := findClass_of_methodNamed B.named
  have hlocks := B.notSynchronized
  subst hsz
  have hD := hD0.self (sz := s.heap.size)
  generalize hAe : va_A [] s.heap.size = A at hD ⊢
  have hA : ∀ q : Nat, s.heap.size ≤ q → A q := fun q h => by rw [← hAe]; exact Or.inr h
  have hS : va_S A s.heap s.heap [] := va_S.rf
  have hP : va_P D vwCl [] s.heap := hP
  have hl := lv_entry ([.int n, .int lo, .int hi]) (n := 3) (Nat.le_of_ble_eq_true rfl)
  rw [lg_entry_eq]
  generalize (lg_sl ([.int n, .int lo, .int hi]) ++ List.replicate (3 - (lg_sl ([.int n, .int lo, .int hi])).length) Slot.unset).toArray = ls at hl ⊢
  have hl : lv_has ls 3 [(0, .int n), (1, .int lo), (2, .int hi)] := hl
  refine lv_iload_n hx hb dX11_in_0 rfl (lv_at hl 0 rfl) ?_
  refine lv_iload_n hx hb dX11_in_1 rfl (lv_at hl 1 rfl) ?_
  refine lv_icmp_lt (tgt := 14) hx hb dX11_in_2 (by decide) (fun c_1 => ?_) (fun c_1 => ?_)
  · refine lv_iconst (v := 0) hx hb dX11_in_14 (by decide) ?_
    exact W.zret (v := 0) hx hb hr rfl (fun t ht hW => ⟨⟨0, (), rfl, by simp [wi, c_1], ⟨pw_P0, va_K.moved hW.alike hK, pw_D0⟩⟩, hS.F ht⟩) hS.2.2 dX11_in_15
  · refine lv_iload_n hx hb dX11_in_5 rfl (lv_at hl 0 rfl) ?_
    refine lv_iload_n hx hb dX11_in_6 rfl (lv_at hl 2 rfl) ?_
    refine lv_icmp_gt (tgt := 14) hx hb dX11_in_7 (by decide) (fun c_2 => ?_) (fun c_2 => ?_)
    · refine lv_iconst (v := 0) hx hb dX11_in_14 (by decide) ?_
      exact W.zret (v := 0) hx hb hr rfl (fun t ht hW => ⟨⟨0, (), rfl, by simp [wi, c_1, c_2], ⟨pw_P0, va_K.moved hW.alike hK, pw_D0⟩⟩, hS.F ht⟩) hS.2.2 dX11_in_15
    · refine lv_iconst (v := 1) hx hb dX11_in_10 (by decide) ?_
      refine lv_goto (tgt := 15) hx hb dX11_in_11 (by decide) ?_
      exact W.zret (v := 1) hx hb hr rfl (fun t ht hW => ⟨⟨1, (), rfl, by simp [wi, c_1, c_2], ⟨pw_P0, va_K.moved hW.alike hK, pw_D0⟩⟩, hS.F ht⟩) hS.2.2 dX11_in_15

set_option maxHeartbeats 4000000 in
set_option maxRecDepth 100000 in
theorem wi_in {n lo hi : Int32} (h : ¬ wi n lo hi = 0) : lo ≤ n ∧ n ≤ hi := by
  unfold wi at h
  by_cases h1 : n < lo
  · rw [if_pos h1] at h; exact absurd rfl h
  · rw [if_neg h1] at h
    by_cases h2 : hi < n
    · rw [if_pos h2] at h; exact absurd rfl h
    · exact ⟨Int32.not_lt.mp h1, Int32.not_lt.mp h2⟩
/-! cells of the class's world, in short -/
abbrev rdC (ov : Nat → Int32) (v : Value) (r1 r2 r3 r4 r5 : Nat) : va_E := .inr (7, [.int (ov 0), .int (ov 1), .int (ov 2), .int (ov 3), v, .ref r1, .ref r2, .ref r3, .ref r4, .ref r5, .int (ov 10), .int (ov 11), .int (ov 12), .int (ov 13), .int (ov 14)])
abbrev chC (cf cl : Nat → Option Nat) (zn : Nat → Int32) (k : Nat) : va_E := .inr (1, [va_rf (cf k), va_rf (cl k), .int (zn k)])
abbrev cbC (r0 fl : Nat) (nw : Int32) : va_E := .inr (10, [.ref r0, .ref fl, .int nw])
abbrev flC (cO : ClassId) (n : Nat) (fa : Nat → Nat → Nat) : va_E := .inl (cO, n, .inr (.inr (.inr (.inr (fun i => some (fa i 0))))))
abbrev tlC (cI : ClassId) (tf : Nat → Int32) : va_E := .inl (cI, 64, .inl tf)
abbrev snC (a b c : Int32) (sv : Nat → Int32) (x y z : Nat) : va_E := .inr (8, [.int a, .int b, .int c, .int (sv 3), .int (sv 4), .int (sv 5), .int (sv 6), .int (sv 7), .int (sv 8), .int (sv 9), .int (sv 10), .int (sv 11), .int (sv 12), .int (sv 13), .int (sv 14), .int (sv 15), .int (sv 16), .ref x, .ref y, .ref z])
abbrev tmC (tv : Nat → Int32) : va_E := .inr (9, [.int (tv 0), .int (tv 1), .int (tv 2), .int (tv 3), .int (tv 4), .int (tv 5)])
abbrev cuC (cv : Nat → Int32) : va_E := .inr (2, [.int (cv 0), .int (cv 1), .int (cv 2), .int (cv 3), .int (cv 4)])
abbrev rcC (a : Int32) (rv : Nat → Int32) (b : Int32) (x : Nat) : va_E := .inr (6, [.int a, .int (rv 1), .int (rv 2), .int b, .ref x, .int (rv 5), .int (rv 6), .int (rv 7), .int (rv 8), .int (rv 9), .int (rv 10)])
abbrev boC (x y : Nat) (bv : Nat → Int32) : va_E := .inr (0, [.ref x, .ref y, .int (bv 2), .int (bv 3)])
abbrev mkC (x : Nat) : va_E := .inr (4, [.ref x])
abbrev fwC (x y : Nat) : va_E := .inr (3, [.ref x, .ref y])
