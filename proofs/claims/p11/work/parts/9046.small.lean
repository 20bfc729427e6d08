set_option maxHeartbeats 4000000 in
set_option maxRecDepth 100000 in
theorem c_within (l : Launch) (D : va_G) (cI cJ cZ cO : ClassId) (sz : Nat) (n lo hi : Int32) : Met l yX10_within (wa yX10_within cX10_within 3 (some .boolean)) ({ frames := 0, cells := 0, slots := 0, locals := 0 }) (va_Pc [.int n, .int lo, .int hi] (pw_s D cI cJ cZ cO sz [])) (va_Qi (fun (r : Int32) (_ : Unit) => r = wi n lo hi) (fun (_ : Unit) (t : State) => pw_t D cI cJ cZ cO (va_A [] sz) [] t) (va_A [] sz)) 0 0 (va_A [] sz) := by
  refine Met.ofW (cc := cX10_within) (maxL := 3) (ret := (some .boolean)) (by decide) rfl ?_
  intro p e s m args below meth c s₁ B hml hv
  obtain ⟨rfl, hsz, hP, hK, hD0, hN⟩ := hv
  have hx := B.exec
  have hb := B.bytes
  have hr := B.returns
  have hts := atoms_spec (ws := (wa yX10_within cX10_within 3 (some .boolean))) B.pre
  have ha : ∀ w ∈ wsL_law, w.before _ s = true := fun w h => hts w (List.mem_cons_of_mem _ h)
  have hown : s.vm.findClass RX10 = some m.cls := findClass_of_methodNamed B.named
  have hlocks := B.notSynchronized
  subst hsz
  have hD := hD0.self (sz := s.heap.size)
  generalize hAe : va_A [] s.heap.size = A at hD ⊢
  have hA : ∀ q : Nat, s.heap.size ≤ q → A q := fun q h => by rw [← hAe]; exact Or.inr h
  have hS : va_S A s.heap s.heap [] := va_S.rf
  have hP : va_P D vwCl [] s.heap := hP
  have hl := lv_entry ([.int n, .int lo, .int hi]) (n := 3) (Nat.le_of_ble_eq_true rfl)
  rw [lg_entry_eq]
  generalize (lg_sl ([.int n, .int lo, .int hi]) ++ List.replicate (3 - (lg_sl ([.int n, .int lo, .int hi])).length) Slot.unset).toArray = ls at hl ⊢
  have hl : lv_has ls 3 [(0, .int n), (1, .int lo), (2, .int hi)] := hl
  refine lv_iload_n hx hb dX10_within_0 rfl (lv_at hl 0 rfl) ?_
  refine lv_iload_n hx hb dX10_within_1 rfl (lv_at hl 1 rfl) ?_
  refine lv_icmp_lt (tgt := 14) hx hb dX10_within_2 (by decide) (fun c_1 => ?_) (fun c_1 => ?_)
  · refine lv_iconst (v := 0) hx hb dX10_within_14 (by decide) ?_
    exact W.zret (v := 0) hx hb hr rfl (fun t ht hW => ⟨⟨0, (), rfl, by simp [wi, c_1], ⟨pw_P0, va_K.moved hW.alike hK, pw_D0⟩⟩, hS.F ht⟩) hS.2.2 dX10_within_15
  · refine lv_iload_n hx hb dX10_within_5 rfl (lv_at hl 0 rfl) ?_
    refine lv_iload_n hx hb dX10_within_6 rfl (lv_at hl 2 rfl) ?_
    refine lv_icmp_gt (tgt := 14) hx hb dX10_within_7 (by decide) (fun c_2 => ?_) (fun c_2 => ?_)
    · refine lv_iconst (v := 0) hx hb dX10_within_14 (by decide) ?_
      exact W.zret (v := 0) hx hb hr rfl (fun t ht hW => ⟨⟨0, (), rfl, by simp [wi, c_1, c_2], ⟨pw_P0, va_K.moved hW.alike hK, pw_D0⟩⟩, hS.F ht⟩) hS.2.2 dX10_within_15
    · refine lv_iconst (v := 1) hx hb dX10_within_10 (by decide) ?_
      refine lv_goto (tgt := 15) hx hb dX10_within_11 (by decide) ?_
      exact W.zret (v := 1) hx hb hr rfl (fun t ht hW => ⟨⟨1, (), rfl, by simp [wi, c_1, c_2], ⟨pw_P0, va_K.moved hW.alike hK, pw_D0⟩⟩, hS.F ht⟩) hS.2.2 dX10_within_15

set_option maxHeartbeats 4000000 in
set_option maxRecDepth 100000 in
theorem c_isFlow (l : Launch) (D : va_G) (cI cJ cZ cO : ClassId) (sz : Nat) (h0 h1 h7 : Nat) (nw_ : Int32) (N : Nat) (g : Nat → Option Nat) (f : Int32) : Met l yX10_isFlow (wa yX10_isFlow cX10_isFlow 2 (some .boolean)) ({ frames := 0, cells := 0, slots := 0, locals := 0 }) (va_Pc [.ref h0, .int f] (pw_s D cI cJ cZ cO sz [(h0, cbC h1 h7 nw_), (h7, .inl (cO, N, .inr (.inr (.inr (.inr g)))))])) (va_Qi (fun (r : Int32) (_ : Unit) => r = isf f N) (fun (_ : Unit) (t : State) => pw_t D cI cJ cZ cO (va_A [(h0, cbC h1 h7 nw_), (h7, .inl (cO, N, .inr (.inr (.inr (.inr g)))))] sz) [(h0, cbC h1 h7 nw_), (h7, .inl (cO, N, .inr (.inr (.inr (.inr g)))))] t) (va_A [(h0, cbC h1 h7 nw_), (h7, .inl (cO, N, .inr (.inr (.inr (.inr g)))))] sz)) 0 0 (va_A [(h0, cbC h1 h7 nw_), (h7, .inl (cO, N, .inr (.inr (.inr (.inr g)))))] sz) := by
  refine Met.ofW (cc := cX10_isFlow) (maxL := 2) (ret := (some .boolean)) (by decide) rfl ?_
  intro p e s m args below meth c s₁ B hml hv
  obtain ⟨rfl, hsz, hP, hK, hD0, hN⟩ := hv
  have hx := B.exec
  have hb := B.bytes
  have hr := B.returns
  have hts := atoms_spec (ws := (wa yX10_isFlow cX10_isFlow 2 (some .boolean))) B.pre
  have ha : ∀ w ∈ wsL_law, w.before _ s = true := fun w h => hts w (List.mem_cons_of_mem _ h)
  have hown : s.vm.findClass RX10 = some m.cls := findClass_of_methodNamed B.named
  have hlocks := B.notSynchronized
  subst hsz
  have hD := hD0.self (sz := s.heap.size)
  generalize hAe : va_A [(h0, cbC h1 h7 nw_), (h7, .inl (cO, N, .inr (.inr (.inr (.inr g)))))] s.heap.size = A at hD ⊢
  have hA : ∀ q : Nat, s.heap.size ≤ q → A q := fun q h => by rw [← hAe]; exact Or.inr h
  have hS : va_S A s.heap s.heap [] := va_S.rf
  have hP : va_P D vwCl [(h0, cbC h1 h7 nw_), (h7, .inl (cO, N, .inr (.inr (.inr (.inr g)))))] s.heap := hP
  have hl := lv_entry ([.ref h0, .int f]) (n := 2) (Nat.le_of_ble_eq_true rfl)
  rw [lg_entry_eq]
  generalize (lg_sl ([.ref h0, .int f]) ++ List.replicate (2 - (lg_sl ([.ref h0, .int f])).length) Slot.unset).toArray = ls at hl ⊢
  have hl : lv_has ls 2 [(0, .ref h0), (1, .int f)] := hl
  refine lv_iload_n hx hb dX10_isFlow_0 rfl (lv_at hl 1 rfl) ?_
  refine lv_if_lt (tgt := 17) hx hb dX10_isFlow_1 (by decide) (fun c_1 => ?_) (fun c_1 => ?_)
  · refine lv_iconst (v := 0) hx hb dX10_isFlow_17 (by decide) ?_
    have hP9 := hP.sub (ws' := [(h0, cbC h1 h7 nw_), (h7, .inl (cO, N, .inr (.inr (.inr (.inr g)))))]) [0, 1] rfl
    have hD9 := hD.sub (ws' := [(h0, cbC h1 h7 nw_), (h7, .inl (cO, N, .inr (.inr (.inr (.inr g)))))]) [0, 1] (by decide) rfl
    exact W.zret (v := 0) hx hb hr rfl (fun t ht hW => ⟨⟨0, (), rfl, by simp [isf, c_1], ⟨by rw [ht]; exact hP9, va_K.moved hW.alike hK, hD9⟩⟩, hS.F ht⟩) hS.2.2 dX10_isFlow_18
  · refine lv_iload_n hx hb dX10_isFlow_4 rfl (lv_at hl 1 rfl) ?_
    refine lv_aload_n hx hb dX10_isFlow_5 rfl (lv_at hl 0 rfl) ?_
    refine va_get (D := D) (ci := 10) (v := .ref h7) (C := RX10) (T := TX10) (N := 3) hx hb ha inlX10 hown hK hP 0 rfl rfl 1 (by decide) (ha _ kf_X10_18) (fun _ h9 => h9) rfl dX10_isFlow_6 ?_
    refine va_alen hx hb hK hP 1 3 (v := nI N) rfl rfl rfl dX10_isFlow_9 ?_
    refine lv_icmp_ge (tgt := 17) hx hb dX10_isFlow_10 (by decide) (fun c_2 => ?_) (fun c_2 => ?_)
    · refine lv_iconst (v := 0) hx hb dX10_isFlow_17 (by decide) ?_
      have hP9 := hP.sub (ws' := [(h0, cbC h1 h7 nw_), (h7, .inl (cO, N, .inr (.inr (.inr (.inr g)))))]) [0, 1] rfl
      have hD9 := hD.sub (ws' := [(h0, cbC h1 h7 nw_), (h7, .inl (cO, N, .inr (.inr (.inr (.inr g)))))]) [0, 1] (by decide) rfl
      exact W.zret (v := 0) hx hb hr rfl (fun t ht hW => ⟨⟨0, (), rfl, by simp [isf, c_1, c_2], ⟨by rw [ht]; exact hP9, va_K.moved hW.alike hK, hD9⟩⟩, hS.F ht⟩) hS.2.2 dX10_isFlow_18
    · refine lv_iconst (v := 1) hx hb dX10_isFlow_13 (by decide) ?_
      refine lv_goto (tgt := 18) hx hb dX10_isFlow_14 (by decide) ?_
      have hP9 := hP.sub (ws' := [(h0, cbC h1 h7 nw_), (h7, .inl (cO, N, .inr (.inr (.inr (.inr g)))))]) [0, 1] rfl
      have hD9 := hD.sub (ws' := [(h0, cbC h1 h7 nw_), (h7, .inl (cO, N, .inr (.inr (.inr (.inr g)))))]) [0, 1] (by decide) rfl
      exact W.zret (v := 1) hx hb hr rfl (fun t ht hW => ⟨⟨1, (), rfl, by simp [isf, c_1, c_2], ⟨by rw [ht]; exact hP9, va_K.moved hW.alike hK, hD9⟩⟩, hS.F ht⟩) hS.2.2 dX10_isFlow_18

set_option maxHeartbeats 4000000 in
set_option maxRecDepth 100000 in
theorem c_orNever (l : Launch) (D : va_G) (cI cJ cZ cO : ClassId) (sz : Nat) (n : Int32) : Met l yX10_orNever (wa yX10_orNever cX10_orNever 1 (some .int)) ({ frames := 0, cells := 0, slots := 0, locals := 0 }) (va_Pc [.int n] (pw_s D cI cJ cZ cO sz [])) (va_Qi (fun (r : Int32) (_ : Unit) => r = orn n) (fun (_ : Unit) (t : State) => pw_t D cI cJ cZ cO (va_A [] sz) [] t) (va_A [] sz)) 0 0 (va_A [] sz) := by
  refine Met.ofW (cc := cX10_orNever) (maxL := 1) (ret := (some .int)) (by decide) rfl ?_
  intro p e s m args below meth c s₁ B hml hv
  obtain ⟨rfl, hsz, hP, hK, hD0, hN⟩ := hv
  have hx := B.exec
  have hb := B.bytes
  have hr := B.returns
  have hts := atoms_spec (ws := (wa yX10_orNever cX10_orNever 1 (some .int))) B.pre
  have ha : ∀ w ∈ wsL_law, w.before _ s = true := fun w h => hts w (List.mem_cons_of_mem _ h)
  have hown : s.vm.findClass RX10 = some m.cls := findClass_of_methodNamed B.named
  have hlocks := B.notSynchronized
  subst hsz
  have hD := hD0.self (sz := s.heap.size)
  generalize hAe : va_A [] s.heap.size = A at hD ⊢
  have hA : ∀ q : Nat, s.heap.size ≤ q → A q := fun q h => by rw [← hAe]; exact Or.inr h
  have hS : va_S A s.heap s.heap [] := va_S.rf
  have hP : va_P D vwCl [] s.heap := hP
  have hl := lv_entry ([.int n]) (n := 1) (Nat.le_of_ble_eq_true rfl)
  rw [lg_entry_eq]
  generalize (lg_sl ([.int n]) ++ List.replicate (1 - (lg_sl ([.int n])).length) Slot.unset).toArray = ls at hl ⊢
  have hl : lv_has ls 1 [(0, .int n)] := hl
  refine lv_iload_n hx hb dX10_orNever_0 rfl (lv_at hl 0 rfl) ?_
  refine lv_iconst (v := (-1)) hx hb dX10_orNever_1 (by decide) ?_
  refine lv_icmp_ne (tgt := 10) hx hb dX10_orNever_2 (by decide) (fun c_1 => ?_) (fun c_1 => ?_)
  · refine lv_iload_n hx hb dX10_orNever_10 rfl (lv_at hl 0 rfl) ?_
    exact W.iret (v := n) hx hb hr (fun t ht hW => ⟨⟨n, (), rfl, by simp [orn, c_1], ⟨pw_P0, va_K.moved hW.alike hK, pw_D0⟩⟩, hS.F ht⟩) hS.2.2 dX10_orNever_11
  · refine lv_ldc (v := 2147483647) hx hb hown (ha _ kk_X10_174) dX10_orNever_5 ?_
    refine lv_goto (tgt := 11) hx hb dX10_orNever_7 (by decide) ?_
    exact W.iret (v := 2147483647) hx hb hr (fun t ht hW => ⟨⟨2147483647, (), rfl, by simp [orn, c_1], ⟨pw_P0, va_K.moved hW.alike hK, pw_D0⟩⟩, hS.F ht⟩) hS.2.2 dX10_orNever_11

theorem isf_j {x : Int32} {n : Nat} (hn : n ≤ 4) (h : ¬ isf x n = 0) : ∃ j, j < n ∧ x = nI j := by
  unfold isf at h
  by_cases h1 : x < 0
  · rw [if_pos h1] at h; exact absurd rfl h
  · rw [if_neg h1] at h
    by_cases h2 : nI n ≤ x
    · rw [if_pos h2] at h; exact absurd rfl h
    · obtain ⟨j, hj, e⟩ := nI_of h1
      refine ⟨j, ?_, e⟩
      rcases Nat.lt_or_ge j n with w | w
      · exact w
      · exact absurd (by rw [e]; exact nI_le w hj) h2
theorem nI_lt_of {j n : Nat} (hj : j ≤ n) (hn : n ≤ 4) (h : ¬ nI n ≤ nI j) : j < n := by
  rcases Nat.lt_or_ge j n with w | w
  · exact w
  · exact absurd (nI_le w (by omega)) h
theorem nI_le0 {k : Nat} (hk : k < 2 ^ 31) (h : nI k ≤ 0) : k = 0 := by
  rcases Nat.eq_zero_or_pos k with w | w
  · exact w
  · exact absurd h (nI_nle w hk)
theorem va_up_same {α : Type} {f : Nat → α} {i : Nat} {v : α} (h : f i = v) : va_up f i v = f := by
  funext j
  by_cases e : j = i
  · rw [e, va_up_self, h]
  · rw [va_up_ne _ _ e]
theorem pm_X {X Y pl R : va_W} (h : X.Perm Y) : ((X ++ pl) ++ R).Perm ((Y ++ pl) ++ R) := List.Perm.append_right R (List.Perm.append_right pl h)
theorem pm_F {X cx xr pl R : va_W} (h : X.Perm (cx ++ xr)) : ((X ++ pl) ++ R).Perm (((cx ++ pl) ++ R) ++ xr) := by
  refine (List.Perm.append_right R (List.Perm.append_right pl h)).trans ?_
  simp only [List.append_assoc]
  refine List.Perm.append_left _ ?_
  refine List.perm_append_comm.trans ?_
  simp only [List.append_assoc]
  exact List.Perm.refl _
theorem pm_Fb {xr rx pl R : va_W} : (((rx ++ pl) ++ R) ++ xr).Perm (((xr ++ rx) ++ pl) ++ R) := by
  refine List.perm_append_comm.trans ?_
  simp only [List.append_assoc]
  exact List.Perm.refl _
theorem TK_s2 {W0 A0 : List Int32} {t0 : Nat} {w d : Int32} {e : Nat} {gw ga : Prop} {xl xa : Nat → List Nat} {pi : Nat → Nat → Int32} {ol : Option Nat} {b : Nat} {l : List Nat} (h : TK W0 A0 t0 w d e gw ga xl pi ol b) (hx : va_up xl 1 l = xa) : Srt (dz pi (xa 2)) := by
  rw [← hx, va_up_ne _ _ (by decide)]
  exact h.2.2.1
theorem nI_sub0 {j n : Nat} (hj : j ≤ n) (hn : n ≤ 4) (h : nI n ≤ nI j) : n - j = 0 := by
  rcases Nat.lt_or_ge j n with w | w
  · exact absurd h (Int32.not_le.mpr (nI_lt w (show n < 2 ^ 31 by omega)))
  · omega
theorem TK_mono {W0 A0 : List Int32} {t0 : Nat} {w d : Int32} {e e2 : Nat} {gw ga : Prop} {xl : Nat → List Nat} {pi : Nat → Nat → Int32} {ol : Option Nat} {b : Nat} (h : TK W0 A0 t0 w d e gw ga xl pi ol b) (he : e ≤ e2) : TK W0 A0 t0 w d e2 gw ga xl pi ol b := by
  obtain ⟨⟨dn, dm, j, h1, h2, h3⟩, r⟩ := h
  exact ⟨⟨dn, dm, j, h1, h2, by omega⟩, r⟩
