set_option maxHeartbeats 4000000 in
set_option maxRecDepth 100000 in
theorem c_link (l : Launch) (D : va_G) (cI cJ cZ cO : ClassId) (sz : Nat) (h0 h1 h2 h3 h4 h5 h6 h7 : Nat) (a1 a2 a3 a4 : Int32) : Met l yX10_link (wa yX10_link cX10_link 6 (some .boolean)) ({ frames := 1, cells := 0, slots := 0, locals := 24 }) (va_Pc [.ref h0, .int a1, .int a2, .int a3, .int a4] (pw_s D cI cJ cZ cO sz [(h0, .inr (10, [.ref h1, .ref h7, .int 0])), (h1, .inr (7, [.int 10, .int 20, .int 20, .int 20, .null, .ref h2, .ref h3, .ref h4, .ref h5, .ref h6, .int 0, .int 0, .int 0, .int 0, .int 0])), (h2, .inr (1, [.null, .null, .int 0])), (h3, .inr (1, [.null, .null, .int 0])), (h4, .inr (1, [.null, .null, .int 0])), (h5, .inr (1, [.null, .null, .int 0])), (h6, .inl (cI, 64, .inl (fun _ => 0))), (h7, .inl (cO, 0, .inr (.inr (.inr (.inr (fun _ => none))))))])) (va_Qi (fun (r : Int32) (_ : Unit) => r = lk a1 a2 a3 a4) (fun (_ : Unit) (t : State) => pw_t D cI cJ cZ cO (va_A [(h0, .inr (10, [.ref h1, .ref h7, .int 0])), (h1, .inr (7, [.int 10, .int 20, .int 20, .int 20, .null, .ref h2, .ref h3, .ref h4, .ref h5, .ref h6, .int 0, .int 0, .int 0, .int 0, .int 0])), (h2, .inr (1, [.null, .null, .int 0])), (h3, .inr (1, [.null, .null, .int 0])), (h4, .inr (1, [.null, .null, .int 0])), (h5, .inr (1, [.null, .null, .int 0])), (h6, .inl (cI, 64, .inl (fun _ => 0))), (h7, .inl (cO, 0, .inr (.inr (.inr (.inr (fun _ => none))))))] sz) [] t) (va_A [(h0, .inr (10, [.ref h1, .ref h7, .int 0])), (h1, .inr (7, [.int 10, .int 20, .int 20, .int 20, .null, .ref h2, .ref h3, .ref h4, .ref h5, .ref h6, .int 0, .int 0, .int 0, .int 0, .int 0])), (h2, .inr (1, [.null, .null, .int 0])), (h3, .inr (1, [.null, .null, .int 0])), (h4, .inr (1, [.null, .null, .int 0])), (h5, .inr (1, [.null, .null, .int 0])), (h6, .inl (cI, 64, .inl (fun _ => 0))), (h7, .inl (cO, 0, .inr (.inr (.inr (.inr (fun _ => none))))))] sz)) 0 0 (va_A [(h0, .inr (10, [.ref h1, .ref h7, .int 0])), (h1, .inr (7, [.int 10, .int 20, .int 20, .int 20, .null, .ref h2, .ref h3, .ref h4, .ref h5, .ref h6, .int 0, .int 0, .int 0, .int 0, .int 0])), (h2, .inr (1, [.null, .null, .int 0])), (h3, .inr (1, [.null, .null, .int 0])), (h4, .inr (1, [.null, .null, .int 0])), (h5, .inr (1, [.null, .null, .int 0])), (h6, .inl (cI, 64, .inl (fun _ => 0))), (h7, .inl (cO, 0, .inr (.inr (.inr (.inr (fun _ => none))))))] sz) := by
  refine Met.ofW (cc := cX10_link) (maxL := 6) (ret := (some .boolean)) (by decide) rfl ?_
  intro p e s m args below meth c s₁ B hml hv
  obtain ⟨rfl, hsz, hP, hK, hD0, hN⟩ := hv
  have hx := B.exec
  have hb := B.bytes
  have hr := B.returns
  have hts := atoms_spec (ws := (wa yX10_link cX10_link 6 (some .boolean))) B.pre
  have ha : ∀ w ∈ wsL_law, w.before _ s = true := fun w h => hts w (List.mem_cons_of_mem _ h)
  have hown : s.vm.findClass RX10 = some m.cls := findClass_of_methodNamed B.named
  have hlocks := B.notSynchronized
  subst hsz
  have hD := hD0.self (sz := s.heap.size)
  generalize hAe : va_A [(h0, .inr (10, [.ref h1, .ref h7, .int 0])), (h1, .inr (7, [.int 10, .int 20, .int 20, .int 20, .null, .ref h2, .ref h3, .ref h4, .ref h5, .ref h6, .int 0, .int 0, .int 0, .int 0, .int 0])), (h2, .inr (1, [.null, .null, .int 0])), (h3, .inr (1, [.null, .null, .int 0])), (h4, .inr (1, [.null, .null, .int 0])), (h5, .inr (1, [.null, .null, .int 0])), (h6, .inl (cI, 64, .inl (fun _ => 0))), (h7, .inl (cO, 0, .inr (.inr (.inr (.inr (fun _ => none))))))] s.heap.size = A at hD ⊢
  have hA : ∀ q : Nat, s.heap.size ≤ q → A q := fun q h => by rw [← hAe]; exact Or.inr h
  have hS : va_S A s.heap s.heap [] := va_S.rf
  have hP : va_P D vwCl [(h0, .inr (10, [.ref h1, .ref h7, .int 0])), (h1, .inr (7, [.int 10, .int 20, .int 20, .int 20, .null, .ref h2, .ref h3, .ref h4, .ref h5, .ref h6, .int 0, .int 0, .int 0, .int 0, .int 0])), (h2, .inr (1, [.null, .null, .int 0])), (h3, .inr (1, [.null, .null, .int 0])), (h4, .inr (1, [.null, .null, .int 0])), (h5, .inr (1, [.null, .null, .int 0])), (h6, .inl (cI, 64, .inl (fun _ => 0))), (h7, .inl (cO, 0, .inr (.inr (.inr (.inr (fun _ => none))))))] s.heap := hP
  have hl := lv_entry ([.ref h0, .int a1, .int a2, .int a3, .int a4]) (n := 6) (Nat.le_of_ble_eq_true rfl)
  rw [lg_entry_eq]
  generalize (lg_sl ([.ref h0, .int a1, .int a2, .int a3, .int a4]) ++ List.replicate (6 - (lg_sl ([.ref h0, .int a1, .int a2, .int a3, .int a4])).length) Slot.unset).toArray = ls at hl ⊢
  have hl : lv_has ls 6 [(0, .ref h0), (1, .int a1), (2, .int a2), (3, .int a3), (4, .int a4)] := hl
  refine lv_iload_n hx hb dX10_link_0 rfl (lv_at hl 1 rfl) ?_
  refine lv_iconst (v := 1) hx hb dX10_link_1 (by decide) ?_
  refine lv_bipush (v := 100) hx hb dX10_link_2 (by decide) ?_
  have hPc := hP.sub (ws' := []) [] rfl
  have hDc := hD.sub (ws' := []) [] (by decide) rfl
  have hFc := va_free (wc := []) hD hS hA [] rfl
  refine va_calli (va_runS (As := [.int a1, .int 1, .int 100]) (rest := []) ⟨hx, hb, hml, hown, ha⟩ (c_within l D cI cJ cZ cO _ a1 1 100) (va_cwS 3 ha (gaS kl_X10_22 kt_X10_within kz_X10 kd_X10_within) rfl rfl rfl (by decide +kernel) ⟨Nat.le_of_ble_eq_true rfl, Nat.le_of_ble_eq_true rfl⟩) ⟨pw_blind, fun U hU hW => ⟨rfl, pw_start hU hW hPc hK hDc hN⟩⟩ rfl rfl hl.1 rfl (lv_room (Nat.le_of_ble_eq_true rfl)) dX10_link_4 ⟨Nat.le_of_ble_eq_true rfl, Nat.le_of_ble_eq_true rfl⟩) hS (fun q _ h => hFc q h) hFc (fun r_1 u t H1 locs ht hvm hw hB hz1 hk1 hS => ?_)
  obtain ⟨hP1, hK1, hD1⟩ := hB
  rw [ht] at hP1
  obtain ⟨hP, hD⟩ := va_join (wr := [(h0, .inr (10, [.ref h1, .ref h7, .int 0])), (h1, .inr (7, [.int 10, .int 20, .int 20, .int 20, .null, .ref h2, .ref h3, .ref h4, .ref h5, .ref h6, .int 0, .int 0, .int 0, .int 0, .int 0])), (h2, .inr (1, [.null, .null, .int 0])), (h3, .inr (1, [.null, .null, .int 0])), (h4, .inr (1, [.null, .null, .int 0])), (h5, .inr (1, [.null, .null, .int 0])), (h6, .inl (cI, 64, .inl (fun _ => 0))), (h7, .inl (cO, 0, .inr (.inr (.inr (.inr (fun _ => none))))))]) (w1 := []) hP hD [] [0, 1, 2, 3, 4, 5, 6, 7] rfl rfl (by decide) (by decide) hk1 hFc hP1 hD1
  generalize H1 = H at hP hS ⊢
  have hP : va_P D vwCl [(h0, .inr (10, [.ref h1, .ref h7, .int 0])), (h1, .inr (7, [.int 10, .int 20, .int 20, .int 20, .null, .ref h2, .ref h3, .ref h4, .ref h5, .ref h6, .int 0, .int 0, .int 0, .int 0, .int 0])), (h2, .inr (1, [.null, .null, .int 0])), (h3, .inr (1, [.null, .null, .int 0])), (h4, .inr (1, [.null, .null, .int 0])), (h5, .inr (1, [.null, .null, .int 0])), (h6, .inl (cI, 64, .inl (fun _ => 0))), (h7, .inl (cO, 0, .inr (.inr (.inr (.inr (fun _ => none))))))] H := hP
  have hD : va_D A [(h0, .inr (10, [.ref h1, .ref h7, .int 0])), (h1, .inr (7, [.int 10, .int 20, .int 20, .int 20, .null, .ref h2, .ref h3, .ref h4, .ref h5, .ref h6, .int 0, .int 0, .int 0, .int 0, .int 0])), (h2, .inr (1, [.null, .null, .int 0])), (h3, .inr (1, [.null, .null, .int 0])), (h4, .inr (1, [.null, .null, .int 0])), (h5, .inr (1, [.null, .null, .int 0])), (h6, .inl (cI, 64, .inl (fun _ => 0))), (h7, .inl (cO, 0, .inr (.inr (.inr (.inr (fun _ => none))))))] := hD
  refine W.widen (k := 0) (n := 0) (Nat.le_of_ble_eq_true rfl) (Nat.le_of_ble_eq_true rfl) ?_
  have hr_1 := hw
  subst hr_1
  refine lv_if_eq (tgt := 47) hx hb dX10_link_7 (by decide) (fun c_2 => ?_) (fun c_2 => ?_)
  · refine lv_iconst (v := 0) hx hb dX10_link_47 (by decide) ?_
    refine lv_istore (lv' := [(5, .int 0), (0, .ref h0), (1, .int a1), (2, .int a2), (3, .int a3), (4, .int a4)]) hx hb dX10_link_48 hl (by decide) rfl (fun ls hl => ?_)
    refine lv_iload hx hb dX10_link_50 (lv_at hl 0 rfl) ?_
    refine lv_if_eq (tgt := 67) hx hb dX10_link_52 (by decide) (fun c_3 => ?_) (fun c_3 => ?_)
    rotate_left
    · exact absurd (by decide) c_3
    refine lv_iload hx hb dX10_link_67 (lv_at hl 0 rfl) ?_
    exact W.zret (v := 0) hx hb hr rfl (fun t ht hW => ⟨⟨0, (), rfl, by simp [lk, c_2], ⟨pw_P0, va_K.moved hW.alike hK, pw_D0⟩⟩, hS.F ht⟩) hS.2.2 dX10_link_69
  · refine lv_iload_n hx hb dX10_link_10 rfl (lv_at hl 2 rfl) ?_
    refine lv_iconst (v := 0) hx hb dX10_link_11 (by decide) ?_
    refine lv_bipush (v := 100) hx hb dX10_link_12 (by decide) ?_
    have hPc := hP.sub (ws' := []) [] rfl
    have hDc := hD.sub (ws' := []) [] (by decide) rfl
    have hFc := va_free (wc := []) hD hS hA [] rfl
    refine va_calli (va_runS (As := [.int a2, .int 0, .int 100]) (rest := []) ⟨hx, hb, hml, hown, ha⟩ (c_within l D cI cJ cZ cO _ a2 0 100) (va_cwS 3 ha (gaS kl_X10_22 kt_X10_within kz_X10 kd_X10_within) rfl rfl rfl (by decide +kernel) ⟨Nat.le_of_ble_eq_true rfl, Nat.le_of_ble_eq_true rfl⟩) ⟨pw_blind, fun U hU hW => ⟨rfl, pw_start hU hW hPc hK hDc hN⟩⟩ rfl rfl hl.1 rfl (lv_room (Nat.le_of_ble_eq_true rfl)) dX10_link_14 ⟨Nat.le_of_ble_eq_true rfl, Nat.le_of_ble_eq_true rfl⟩) hS (fun q _ h => hFc q h) hFc (fun r_4 u t H1 locs ht hvm hw hB hz1 hk1 hS => ?_)
    obtain ⟨hP1, hK1, hD1⟩ := hB
    rw [ht] at hP1
    obtain ⟨hP, hD⟩ := va_join (wr := [(h0, .inr (10, [.ref h1, .ref h7, .int 0])), (h1, .inr (7, [.int 10, .int 20, .int 20, .int 20, .null, .ref h2, .ref h3, .ref h4, .ref h5, .ref h6, .int 0, .int 0, .int 0, .int 0, .int 0])), (h2, .inr (1, [.null, .null, .int 0])), (h3, .inr (1, [.null, .null, .int 0])), (h4, .inr (1, [.null, .null, .int 0])), (h5, .inr (1, [.null, .null, .int 0])), (h6, .inl (cI, 64, .inl (fun _ => 0))), (h7, .inl (cO, 0, .inr (.inr (.inr (.inr (fun _ => none))))))]) (w1 := []) hP hD [] [0, 1, 2, 3, 4, 5, 6, 7] rfl rfl (by decide) (by decide) hk1 hFc hP1 hD1
    generalize H1 = H at hP hS ⊢
    have hP : va_P D vwCl [(h0, .inr (10, [.ref h1, .ref h7, .int 0])), (h1, .inr (7, [.int 10, .int 20, .int 20, .int 20, .null, .ref h2, .ref h3, .ref h4, .ref h5, .ref h6, .int 0, .int 0, .int 0, .int 0, .int 0])), (h2, .inr (1, [.null, .null, .int 0])), (h3, .inr (1, [.null, .null, .int 0])), (h4, .inr (1, [.null, .null, .int 0])), (h5, .inr (1, [.null, .null, .int 0])), (h6, .inl (cI, 64, .inl (fun _ => 0))), (h7, .inl (cO, 0, .inr (.inr (.inr (.inr (fun _ => none))))))] H := hP
    have hD : va_D A [(h0, .inr (10, [.ref h1, .ref h7, .int 0])), (h1, .inr (7, [.int 10, .int 20, .int 20, .int 20, .null, .ref h2, .ref h3, .ref h4, .ref h5, .ref h6, .int 0, .int 0, .int 0, .int 0, .int 0])), (h2, .inr (1, [.null, .null, .int 0])), (h3, .inr (1, [.null, .null, .int 0])), (h4, .inr (1, [.null, .null, .int 0])), (h5, .inr (1, [.null, .null, .int 0])), (h6, .inl (cI, 64, .inl (fun _ => 0))), (h7, .inl (cO, 0, .inr (.inr (.inr (.inr (fun _ => none))))))] := hD
    refine W.widen (k := 0) (n := 0) (Nat.le_of_ble_eq_true rfl) (Nat.le_of_ble_eq_true rfl) ?_
    have hr_4 := hw
    subst hr_4
    refine lv_if_eq (tgt := 47) hx hb dX10_link_17 (by decide) (fun c_5 => ?_) (fun c_5 => ?_)
    · refine lv_iconst (v := 0) hx hb dX10_link_47 (by decide) ?_
      refine lv_istore (lv' := [(5, .int 0), (0, .ref h0), (1, .int a1), (2, .int a2), (3, .int a3), (4, .int a4)]) hx hb dX10_link_48 hl (by decide) rfl (fun ls hl => ?_)
      refine lv_iload hx hb dX10_link_50 (lv_at hl 0 rfl) ?_
      refine lv_if_eq (tgt := 67) hx hb dX10_link_52 (by decide) (fun c_6 => ?_) (fun c_6 => ?_)
      rotate_left
      · exact absurd (by decide) c_6
      refine lv_iload hx hb dX10_link_67 (lv_at hl 0 rfl) ?_
      exact W.zret (v := 0) hx hb hr rfl (fun t ht hW => ⟨⟨0, (), rfl, by simp [lk, c_2, c_5], ⟨pw_P0, va_K.moved hW.alike hK, pw_D0⟩⟩, hS.F ht⟩) hS.2.2 dX10_link_69
    · refine lv_iload_n hx hb dX10_link_20 rfl (lv_at hl 3 rfl) ?_
      refine lv_iconst (v := 1) hx hb dX10_link_21 (by decide) ?_
      refine lv_sipush (v := 1000) hx hb dX10_link_22 (by decide) ?_
      have hPc := hP.sub (ws' := []) [] rfl
      have hDc := hD.sub (ws' := []) [] (by decide) rfl
      have hFc := va_free (wc := []) hD hS hA [] rfl
      refine va_calli (va_runS (As := [.int a3, .int 1, .int 1000]) (rest := []) ⟨hx, hb, hml, hown, ha⟩ (c_within l D cI cJ cZ cO _ a3 1 1000) (va_cwS 3 ha (gaS kl_X10_22 kt_X10_within kz_X10 kd_X10_within) rfl rfl rfl (by decide +kernel) ⟨Nat.le_of_ble_eq_true rfl, Nat.le_of_ble_eq_true rfl⟩) ⟨pw_blind, fun U hU hW => ⟨rfl, pw_start hU hW hPc hK hDc hN⟩⟩ rfl rfl hl.1 rfl (lv_room (Nat.le_of_ble_eq_true rfl)) dX10_link_25 ⟨Nat.le_of_ble_eq_true rfl, Nat.le_of_ble_eq_true rfl⟩) hS (fun q _ h => hFc q h) hFc (fun r_7 u t H1 locs ht hvm hw hB hz1 hk1 hS => ?_)
      obtain ⟨hP1, hK1, hD1⟩ := hB
      rw [ht] at hP1
      obtain ⟨hP, hD⟩ := va_join (wr := [(h0, .inr (10, [.ref h1, .ref h7, .int 0])), (h1, .inr (7, [.int 10, .int 20, .int 20, .int 20, .null, .ref h2, .ref h3, .ref h4, .ref h5, .ref h6, .int 0, .int 0, .int 0, .int 0, .int 0])), (h2, .inr (1, [.null, .null, .int 0])), (h3, .inr (1, [.null, .null, .int 0])), (h4, .inr (1, [.null, .null, .int 0])), (h5, .inr (1, [.null, .null, .int 0])), (h6, .inl (cI, 64, .inl (fun _ => 0))), (h7, .inl (cO, 0, .inr (.inr (.inr (.inr (fun _ => none))))))]) (w1 := []) hP hD [] [0, 1, 2, 3, 4, 5, 6, 7] rfl rfl (by decide) (by decide) hk1 hFc hP1 hD1
      generalize H1 = H at hP hS ⊢
      have hP : va_P D vwCl [(h0, .inr (10, [.ref h1, .ref h7, .int 0])), (h1, .inr (7, [.int 10, .int 20, .int 20, .int 20, .null, .ref h2, .ref h3, .ref h4, .ref h5, .ref h6, .int 0, .int 0, .int 0, .int 0, .int 0])), (h2, .inr (1, [.null, .null, .int 0])), (h3, .inr (1, [.null, .null, .int 0])), (h4, .inr (1, [.null, .null, .int 0])), (h5, .inr (1, [.null, .null, .int 0])), (h6, .inl (cI, 64, .inl (fun _ => 0))), (h7, .inl (cO, 0, .inr (.inr (.inr (.inr (fun _ => none))))))] H := hP
      have hD : va_D A [(h0, .inr (10, [.ref h1, .ref h7, .int 0])), (h1, .inr (7, [.int 10, .int 20, .int 20, .int 20, .null, .ref h2, .ref h3, .ref h4, .ref h5, .ref h6, .int 0, .int 0, .int 0, .int 0, .int 0])), (h2, .inr (1, [.null, .null, .int 0])), (h3, .inr (1, [.null, .null, .int 0])), (h4, .inr (1, [.null, .null, .int 0])), (h5, .inr (1, [.null, .null, .int 0])), (h6, .inl (cI, 64, .inl (fun _ => 0))), (h7, .inl (cO, 0, .inr (.inr (.inr (.inr (fun _ => none))))))] := hD
      refine W.widen (k := 0) (n := 0) (Nat.le_of_ble_eq_true rfl) (Nat.le_of_ble_eq_true rfl) ?_
      have hr_7 := hw
      subst hr_7
      refine lv_if_eq (tgt := 47) hx hb dX10_link_28 (by decide) (fun c_8 => ?_) (fun c_8 => ?_)
      · refine lv_iconst (v := 0) hx hb dX10_link_47 (by decide) ?_
        refine lv_istore (lv' := [(5, .int 0), (0, .ref h0), (1, .int a1), (2, .int a2), (3, .int a3), (4, .int a4)]) hx hb dX10_link_48 hl (by decide) rfl (fun ls hl => ?_)
        refine lv_iload hx hb dX10_link_50 (lv_at hl 0 rfl) ?_
        refine lv_if_eq (tgt := 67) hx hb dX10_link_52 (by decide) (fun c_9 => ?_) (fun c_9 => ?_)
        rotate_left
        · exact absurd (by decide) c_9
        refine lv_iload hx hb dX10_link_67 (lv_at hl 0 rfl) ?_
        exact W.zret (v := 0) hx hb hr rfl (fun t ht hW => ⟨⟨0, (), rfl, by simp [lk, c_2, c_5, c_8], ⟨pw_P0, va_K.moved hW.alike hK, pw_D0⟩⟩, hS.F ht⟩) hS.2.2 dX10_link_69
      · refine lv_iload hx hb dX10_link_31 (lv_at hl 4 rfl) ?_
        refine lv_iconst (v := 1) hx hb dX10_link_33 (by decide) ?_
        refine lv_sipush (v := 1000) hx hb dX10_link_34 (by decide) ?_
        have hPc := hP.sub (ws' := []) [] rfl
        have hDc := hD.sub (ws' := []) [] (by decide) rfl
        have hFc := va_free (wc := []) hD hS hA [] rfl
        refine va_calli (va_runS (As := [.int a4, .int 1, .int 1000]) (rest := []) ⟨hx, hb, hml, hown, ha⟩ (c_within l D cI cJ cZ cO _ a4 1 1000) (va_cwS 3 ha (gaS kl_X10_22 kt_X10_within kz_X10 kd_X10_within) rfl rfl rfl (by decide +kernel) ⟨Nat.le_of_ble_eq_true rfl, Nat.le_of_ble_eq_true rfl⟩) ⟨pw_blind, fun U hU hW => ⟨rfl, pw_start hU hW hPc hK hDc hN⟩⟩ rfl rfl hl.1 rfl (lv_room (Nat.le_of_ble_eq_true rfl)) dX10_link_37 ⟨Nat.le_of_ble_eq_true rfl, Nat.le_of_ble_eq_true rfl⟩) hS (fun q _ h => hFc q h) hFc (fun r_10 u t H1 locs ht hvm hw hB hz1 hk1 hS => ?_)
        obtain ⟨hP1, hK1, hD1⟩ := hB
        rw [ht] at hP1
        obtain ⟨hP, hD⟩ := va_join (wr := [(h0, .inr (10, [.ref h1, .ref h7, .int 0])), (h1, .inr (7, [.int 10, .int 20, .int 20, .int 20, .null, .ref h2, .ref h3, .ref h4, .ref h5, .ref h6, .int 0, .int 0, .int 0, .int 0, .int 0])), (h2, .inr (1, [.null, .null, .int 0])), (h3, .inr (1, [.null, .null, .int 0])), (h4, .inr (1, [.null, .null, .int 0])), (h5, .inr (1, [.null, .null, .int 0])), (h6, .inl (cI, 64, .inl (fun _ => 0))), (h7, .inl (cO, 0, .inr (.inr (.inr (.inr (fun _ => none))))))]) (w1 := []) hP hD [] [0, 1, 2, 3, 4, 5, 6, 7] rfl rfl (by decide) (by decide) hk1 hFc hP1 hD1
        generalize H1 = H at hP hS ⊢
        have hP : va_P D vwCl [(h0, .inr (10, [.ref h1, .ref h7, .int 0])), (h1, .inr (7, [.int 10, .int 20, .int 20, .int 20, .null, .ref h2, .ref h3, .ref h4, .ref h5, .ref h6, .int 0, .int 0, .int 0, .int 0, .int 0])), (h2, .inr (1, [.null, .null, .int 0])), (h3, .inr (1, [.null, .null, .int 0])), (h4, .inr (1, [.null, .null, .int 0])), (h5, .inr (1, [.null, .null, .int 0])), (h6, .inl (cI, 64, .inl (fun _ => 0))), (h7, .inl (cO, 0, .inr (.inr (.inr (.inr (fun _ => none))))))] H := hP
        have hD : va_D A [(h0, .inr (10, [.ref h1, .ref h7, .int 0])), (h1, .inr (7, [.int 10, .int 20, .int 20, .int 20, .null, .ref h2, .ref h3, .ref h4, .ref h5, .ref h6, .int 0, .int 0, .int 0, .int 0, .int 0])), (h2, .inr (1, [.null, .null, .int 0])), (h3, .inr (1, [.null, .null, .int 0])), (h4, .inr (1, [.null, .null, .int 0])), (h5, .inr (1, [.null, .null, .int 0])), (h6, .inl (cI, 64, .inl (fun _ => 0))), (h7, .inl (cO, 0, .inr (.inr (.inr (.inr (fun _ => none))))))] := hD
        refine W.widen (k := 0) (n := 0) (Nat.le_of_ble_eq_true rfl) (Nat.le_of_ble_eq_true rfl) ?_
        have hr_10 := hw
        subst hr_10
        refine lv_if_eq (tgt := 47) hx hb dX10_link_40 (by decide) (fun c_11 => ?_) (fun c_11 => ?_)
        · refine lv_iconst (v := 0) hx hb dX10_link_47 (by decide) ?_
          refine lv_istore (lv' := [(5, .int 0), (0, .ref h0), (1, .int a1), (2, .int a2), (3, .int a3), (4, .int a4)]) hx hb dX10_link_48 hl (by decide) rfl (fun ls hl => ?_)
          refine lv_iload hx hb dX10_link_50 (lv_at hl 0 rfl) ?_
          refine lv_if_eq (tgt := 67) hx hb dX10_link_52 (by decide) (fun c_12 => ?_) (fun c_12 => ?_)
          rotate_left
          · exact absurd (by decide) c_12
          refine lv_iload hx hb dX10_link_67 (lv_at hl 0 rfl) ?_
          exact W.zret (v := 0) hx hb hr rfl (fun t ht hW => ⟨⟨0, (), rfl, by simp [lk, c_2, c_5, c_8, c_11], ⟨pw_P0, va_K.moved hW.alike hK, pw_D0⟩⟩, hS.F ht⟩) hS.2.2 dX10_link_69
        · refine lv_iconst (v := 1) hx hb dX10_link_43 (by decide) ?_
          refine lv_goto (tgt := 48) hx hb dX10_link_44 (by decide) ?_
          refine lv_istore (lv' := [(5, .int 1), (0, .ref h0), (1, .int a1), (2, .int a2), (3, .int a3), (4, .int a4)]) hx hb dX10_link_48 hl (by decide) rfl (fun ls hl => ?_)
          refine lv_iload hx hb dX10_link_50 (lv_at hl 0 rfl) ?_
          refine lv_if_eq (tgt := 67) hx hb dX10_link_52 (by decide) (fun c_13 => ?_) (fun c_13 => ?_)
          · exact absurd c_13 (by decide)
          refine lv_aload_n hx hb dX10_link_55 rfl (lv_at hl 1 rfl) ?_
          refine va_get (D := D) (ci := 10) (v := .ref h1) (C := RX10) (T := TX10) (N := 3) hx hb ha inlX10 hown hK hP 0 rfl rfl 0 (by decide) (ha _ kf_X10_10) (fun _ h9 => h9) rfl dX10_link_56 ?_
          refine lv_iload_n hx hb dX10_link_59 rfl (lv_at hl 2 rfl) ?_
          refine lv_iload_n hx hb dX10_link_60 rfl (lv_at hl 3 rfl) ?_
          refine lv_iload_n hx hb dX10_link_61 rfl (lv_at hl 4 rfl) ?_
          refine lv_iload hx hb dX10_link_62 (lv_at hl 5 rfl) ?_
          have hPc := hP.sub (ws' := [(h1, .inr (7, [.int 10, .int 20, .int 20, .int 20, .null, .ref h2, .ref h3, .ref h4, .ref h5, .ref h6, .int 0, .int 0, .int 0, .int 0, .int 0]))]) [1] rfl
          have hDc := hD.sub (ws' := [(h1, .inr (7, [.int 10, .int 20, .int 20, .int 20, .null, .ref h2, .ref h3, .ref h4, .ref h5, .ref h6, .int 0, .int 0, .int 0, .int 0, .int 0]))]) [1] (by decide) rfl
          have hFc := va_free (wc := [(h1, .inr (7, [.int 10, .int 20, .int 20, .int 20, .null, .ref h2, .ref h3, .ref h4, .ref h5, .ref h6, .int 0, .int 0, .int 0, .int 0, .int 0]))]) hD hS hA [1] rfl
          refine va_callv (va_runV (As := [.int a1, .int a2, .int a3, .int a4]) (rest := []) ⟨hx, hb, hml, hown, ha⟩ (c_set l D cI cJ cZ cO _ h1 h2 h3 h4 h5 h6 a1 a2 a3 a4) (cwV 4 ha (gaV kl_X10_26 km_X7_set ks_X7_set kz_X7 kd_X7_set) rfl rfl rfl (by decide +kernel) ⟨Nat.le_of_ble_eq_true rfl, Nat.le_of_ble_eq_true rfl⟩) ⟨pw_blind, va_recv hK hPc (ci := 7) (q0 := 0) rfl rfl, fun U hU hW => ⟨rfl, pw_start hU hW hPc hK hDc hN⟩⟩ rfl rfl hl.1 rfl (lv_room (Nat.le_of_ble_eq_true rfl)) dX10_link_64 ⟨Nat.le_of_ble_eq_true rfl, Nat.le_of_ble_eq_true rfl⟩) hS (fun q _ h => hFc q h) hFc (fun u t H1 locs ht hvm hw hB hz1 hk1 hS => ?_)
          obtain ⟨hP1, hK1, hD1⟩ := hB
          rw [ht] at hP1
          obtain ⟨hP, hD⟩ := va_join (wr := [(h0, .inr (10, [.ref h1, .ref h7, .int 0])), (h2, .inr (1, [.null, .null, .int 0])), (h3, .inr (1, [.null, .null, .int 0])), (h4, .inr (1, [.null, .null, .int 0])), (h5, .inr (1, [.null, .null, .int 0])), (h6, .inl (cI, 64, .inl (fun _ => 0))), (h7, .inl (cO, 0, .inr (.inr (.inr (.inr (fun _ => none))))))]) (w1 := []) hP hD [1] [0, 2, 3, 4, 5, 6, 7] rfl rfl (by decide) (by decide) hk1 hFc hP1 hD1
          generalize H1 = H at hP hS ⊢
          have hP : va_P D vwCl [(h0, .inr (10, [.ref h1, .ref h7, .int 0])), (h2, .inr (1, [.null, .null, .int 0])), (h3, .inr (1, [.null, .null, .int 0])), (h4, .inr (1, [.null, .null, .int 0])), (h5, .inr (1, [.null, .null, .int 0])), (h6, .inl (cI, 64, .inl (fun _ => 0))), (h7, .inl (cO, 0, .inr (.inr (.inr (.inr (fun _ => none))))))] H := hP
          have hD : va_D A [(h0, .inr (10, [.ref h1, .ref h7, .int 0])), (h2, .inr (1, [.null, .null, .int 0])), (h3, .inr (1, [.null, .null, .int 0])), (h4, .inr (1, [.null, .null, .int 0])), (h5, .inr (1, [.null, .null, .int 0])), (h6, .inl (cI, 64, .inl (fun _ => 0))), (h7, .inl (cO, 0, .inr (.inr (.inr (.inr (fun _ => none))))))] := hD
          refine W.widen (k := 0) (n := 0) (Nat.le_of_ble_eq_true rfl) (Nat.le_of_ble_eq_true rfl) ?_
          refine lv_iload hx hb dX10_link_67 (lv_at hl 0 rfl) ?_
          exact W.zret (v := 1) hx hb hr rfl (fun t ht hW => ⟨⟨1, (), rfl, by simp [lk, c_2, c_5, c_8, c_11], ⟨pw_P0, va_K.moved hW.alike hK, pw_D0⟩⟩, hS.F ht⟩) hS.2.2 dX10_link_69

set_option maxHeartbeats 4000000 in
set_option maxRecDepth 100000 in
theorem c_send (l : Launch) (D : va_G) (cI cJ cZ cO : ClassId) (sz : Nat) (h0 h1 h2 h3 h4 h5 h6 h7 : Nat) (a1 a2 : Int32) : Met l yX10_send (wa yX10_send cX10_send 3 (some .int)) ({ frames := 1, cells := 0, slots := 0, locals := 21 }) (va_Pc [.ref h0, .int a1, .int a2] (pw_s D cI cJ cZ cO sz [(h0, .inr (10, [.ref h1, .ref h7, .int 0])), (h1, .inr (7, [.int 10, .int 20, .int 20, .int 20, .null, .ref h2, .ref h3, .ref h4, .ref h5, .ref h6, .int 0, .int 0, .int 0, .int 0, .int 0])), (h2, .inr (1, [.null, .null, .int 0])), (h3, .inr (1, [.null, .null, .int 0])), (h4, .inr (1, [.null, .null, .int 0])), (h5, .inr (1, [.null, .null, .int 0])), (h6, .inl (cI, 64, .inl (fun _ => 0))), (h7, .inl (cO, 0, .inr (.inr (.inr (.inr (fun _ => none))))))])) (va_Qi (fun (r : Int32) (_ : Unit) => r = -1) (fun (_ : Unit) (t : State) => pw_t D cI cJ cZ cO (va_A [(h0, .inr (10, [.ref h1, .ref h7, .int 0])), (h1, .inr (7, [.int 10, .int 20, .int 20, .int 20, .null, .ref h2, .ref h3, .ref h4, .ref h5, .ref h6, .int 0, .int 0, .int 0, .int 0, .int 0])), (h2, .inr (1, [.null, .null, .int 0])), (h3, .inr (1, [.null, .null, .int 0])), (h4, .inr (1, [.null, .null, .int 0])), (h5, .inr (1, [.null, .null, .int 0])), (h6, .inl (cI, 64, .inl (fun _ => 0))), (h7, .inl (cO, 0, .inr (.inr (.inr (.inr (fun _ => none))))))] sz) [] t) (va_A [(h0, .inr (10, [.ref h1, .ref h7, .int 0])), (h1, .inr (7, [.int 10, .int 20, .int 20, .int 20, .null, .ref h2, .ref h3, .ref h4, .ref h5, .ref h6, .int 0, .int 0, .int 0, .int 0, .int 0])), (h2, .inr (1, [.null, .null, .int 0])), (h3, .inr (1, [.null, .null, .int 0])), (h4, .inr (1, [.null, .null, .int 0])), (h5, .inr (1, [.null, .null, .int 0])), (h6, .inl (cI, 64, .inl (fun _ => 0))), (h7, .inl (cO, 0, .inr (.inr (.inr (.inr (fun _ => none))))))] sz)) 0 0 (va_A [(h0, .inr (10, [.ref h1, .ref h7, .int 0])), (h1, .inr (7, [.int 10, .int 20, .int 20, .int 20, .null, .ref h2, .ref h3, .ref h4, .ref h5, .ref h6, .int 0, .int 0, .int 0, .int 0, .int 0])), (h2, .inr (1, [.null, .null, .int 0])), (h3, .inr (1, [.null, .null, .int 0])), (h4, .inr (1, [.null, .null, .int 0])), (h5, .inr (1, [.null, .null, .int 0])), (h6, .inl (cI, 64, .inl (fun _ => 0))), (h7, .inl (cO, 0, .inr (.inr (.inr (.inr (fun _ => none))))))] sz) := by
  refine Met.ofW (cc := cX10_send) (maxL := 3) (ret := (some .int)) (by decide) rfl ?_
  intro p e s m args below meth c s₁ B hml hv
  obtain ⟨rfl, hsz, hP, hK, hD0, hN⟩ := hv
  have hx := B.exec
  have hb := B.bytes
  have hr := B.returns
  have hts := atoms_spec (ws := (wa yX10_send cX10_send 3 (some .int))) B.pre
  have ha : ∀ w ∈ wsL_law, w.before _ s = true := fun w h => hts w (List.mem_cons_of_mem _ h)
  have hown : s.vm.findClass RX10 = some m.cls := findClass_of_methodNamed B.named
  have hlocks := B.notSynchronized
  subst hsz
  have hD := hD0.self (sz := s.heap.size)
  generalize hAe : va_A [(h0, .inr (10, [.ref h1, .ref h7, .int 0])), (h1, .inr (7, [.int 10, .int 20, .int 20, .int 20, .null, .ref h2, .ref h3, .ref h4, .ref h5, .ref h6, .int 0, .int 0, .int 0, .int 0, .int 0])), (h2, .inr (1, [.null, .null, .int 0])), (h3, .inr (1, [.null, .null, .int 0])), (h4, .inr (1, [.null, .null, .int 0])), (h5, .inr (1, [.null, .null, .int 0])), (h6, .inl (cI, 64, .inl (fun _ => 0))), (h7, .inl (cO, 0, .inr (.inr (.inr (.inr (fun _ => none))))))] s.heap.size = A at hD ⊢
  have hA : ∀ q : Nat, s.heap.size ≤ q → A q := fun q h => by rw [← hAe]; exact Or.inr h
  have hS : va_S A s.heap s.heap [] := va_S.rf
  have hP : va_P D vwCl [(h0, .inr (10, [.ref h1, .ref h7, .int 0])), (h1, .inr (7, [.int 10, .int 20, .int 20, .int 20, .null, .ref h2, .ref h3, .ref h4, .ref h5, .ref h6, .int 0, .int 0, .int 0, .int 0, .int 0])), (h2, .inr (1, [.null, .null, .int 0])), (h3, .inr (1, [.null, .null, .int 0])), (h4, .inr (1, [.null, .null, .int 0])), (h5, .inr (1, [.null, .null, .int 0])), (h6, .inl (cI, 64, .inl (fun _ => 0))), (h7, .inl (cO, 0, .inr (.inr (.inr (.inr (fun _ => none))))))] s.heap := hP
  have hl := lv_entry ([.ref h0, .int a1, .int a2]) (n := 3) (Nat.le_of_ble_eq_true rfl)
  rw [lg_entry_eq]
  generalize (lg_sl ([.ref h0, .int a1, .int a2]) ++ List.replicate (3 - (lg_sl ([.ref h0, .int a1, .int a2])).length) Slot.unset).toArray = ls at hl ⊢
  have hl : lv_has ls 3 [(0, .ref h0), (1, .int a1), (2, .int a2)] := hl
  refine lv_aload_n hx hb dX10_send_0 rfl (lv_at hl 0 rfl) ?_
  refine lv_iload_n hx hb dX10_send_1 rfl (lv_at hl 1 rfl) ?_
  have hPc := hP.sub (ws' := [(h0, .inr (10, [.ref h1, .ref h7, .int 0])), (h7, .inl (cO, 0, .inr (.inr (.inr (.inr (fun _ => none))))))]) [0, 7] rfl
  have hDc := hD.sub (ws' := [(h0, .inr (10, [.ref h1, .ref h7, .int 0])), (h7, .inl (cO, 0, .inr (.inr (.inr (.inr (fun _ => none))))))]) [0, 7] (by decide) rfl
  have hFc := va_free (wc := [(h0, .inr (10, [.ref h1, .ref h7, .int 0])), (h7, .inl (cO, 0, .inr (.inr (.inr (.inr (fun _ => none))))))]) hD hS hA [0, 7] rfl
  refine va_calli (va_runV (As := [.int a1]) (rest := []) ⟨hx, hb, hml, hown, ha⟩ (c_isFlow l D cI cJ cZ cO _ h0 h1 h7 0 0 (fun _ => none) a1) (cwV 1 ha (gaV kl_X10_33 km_X10_isFlow ks_X10_isFlow kz_X10 kd_X10_isFlow) rfl rfl rfl (by decide +kernel) ⟨Nat.le_of_ble_eq_true rfl, Nat.le_of_ble_eq_true rfl⟩) ⟨pw_blind, va_recv hK hPc (ci := 10) (q0 := 0) rfl rfl, fun U hU hW => ⟨rfl, pw_start hU hW hPc hK hDc hN⟩⟩ rfl rfl hl.1 rfl (lv_room (Nat.le_of_ble_eq_true rfl)) dX10_send_2 ⟨Nat.le_of_ble_eq_true rfl, Nat.le_of_ble_eq_true rfl⟩) hS (fun q _ h => hFc q h) hFc (fun r_1 u t H1 locs ht hvm hw hB hz1 hk1 hS => ?_)
  obtain ⟨hP1, hK1, hD1⟩ := hB
  rw [ht] at hP1
  obtain ⟨hP, hD⟩ := va_join (wr := [(h1, .inr (7, [.int 10, .int 20, .int 20, .int 20, .null, .ref h2, .ref h3, .ref h4, .ref h5, .ref h6, .int 0, .int 0, .int 0, .int 0, .int 0])), (h2, .inr (1, [.null, .null, .int 0])), (h3, .inr (1, [.null, .null, .int 0])), (h4, .inr (1, [.null, .null, .int 0])), (h5, .inr (1, [.null, .null, .int 0])), (h6, .inl (cI, 64, .inl (fun _ => 0)))]) (w1 := [(h0, .inr (10, [.ref h1, .ref h7, .int 0])), (h7, .inl (cO, 0, .inr (.inr (.inr (.inr (fun _ => none))))))]) hP hD [0, 7] [1, 2, 3, 4, 5, 6] rfl rfl (by decide) (by decide) hk1 hFc hP1 hD1
  generalize H1 = H at hP hS ⊢
  have hP : va_P D vwCl [(h1, .inr (7, [.int 10, .int 20, .int 20, .int 20, .null, .ref h2, .ref h3, .ref h4, .ref h5, .ref h6, .int 0, .int 0, .int 0, .int 0, .int 0])), (h2, .inr (1, [.null, .null, .int 0])), (h3, .inr (1, [.null, .null, .int 0])), (h4, .inr (1, [.null, .null, .int 0])), (h5, .inr (1, [.null, .null, .int 0])), (h6, .inl (cI, 64, .inl (fun _ => 0))), (h0, .inr (10, [.ref h1, .ref h7, .int 0])), (h7, .inl (cO, 0, .inr (.inr (.inr (.inr (fun _ => none))))))] H := hP
  have hD : va_D A [(h1, .inr (7, [.int 10, .int 20, .int 20, .int 20, .null, .ref h2, .ref h3, .ref h4, .ref h5, .ref h6, .int 0, .int 0, .int 0, .int 0, .int 0])), (h2, .inr (1, [.null, .null, .int 0])), (h3, .inr (1, [.null, .null, .int 0])), (h4, .inr (1, [.null, .null, .int 0])), (h5, .inr (1, [.null, .null, .int 0])), (h6, .inl (cI, 64, .inl (fun _ => 0))), (h0, .inr (10, [.ref h1, .ref h7, .int 0])), (h7, .inl (cO, 0, .inr (.inr (.inr (.inr (fun _ => none))))))] := hD
  refine W.widen (k := 0) (n := 0) (Nat.le_of_ble_eq_true rfl) (Nat.le_of_ble_eq_true rfl) ?_
  obtain rfl : r_1 = 0 := hw.trans (isf_0 _)
  refine lv_if_eq (tgt := 18) hx hb dX10_send_5 (by decide) (fun c_2 => ?_) (fun c_2 => ?_)
  rotate_left
  · exact absurd (by decide) c_2
  refine lv_iconst (v := (-1)) hx hb dX10_send_18 (by decide) ?_
  exact W.iret (v := (-1)) hx hb hr (fun t ht hW => ⟨⟨(-1), (), rfl, rfl, ⟨pw_P0, va_K.moved hW.alike hK, pw_D0⟩⟩, hS.F ht⟩) hS.2.2 dX10_send_19

set_option maxHeartbeats 4000000 in
set_option maxRecDepth 100000 in
theorem c_window (l : Launch) (D : va_G) (cI cJ cZ cO : ClassId) (sz : Nat) (h0 h1 h2 h3 h4 h5 h6 h7 : Nat) (a1 a2 : Int32) : Met l yX10_window (wa yX10_window cX10_window 3 (some .int)) ({ frames := 1, cells := 0, slots := 0, locals := 21 }) (va_Pc [.ref h0, .int a1, .int a2] (pw_s D cI cJ cZ cO sz [(h0, .inr (10, [.ref h1, .ref h7, .int 0])), (h1, .inr (7, [.int 10, .int 20, .int 20, .int 20, .null, .ref h2, .ref h3, .ref h4, .ref h5, .ref h6, .int 0, .int 0, .int 0, .int 0, .int 0])), (h2, .inr (1, [.null, .null, .int 0])), (h3, .inr (1, [.null, .null, .int 0])), (h4, .inr (1, [.null, .null, .int 0])), (h5, .inr (1, [.null, .null, .int 0])), (h6, .inl (cI, 64, .inl (fun _ => 0))), (h7, .inl (cO, 0, .inr (.inr (.inr (.inr (fun _ => none))))))])) (va_Qi (fun (r : Int32) (_ : Unit) => r = -1) (fun (_ : Unit) (t : State) => pw_t D cI cJ cZ cO (va_A [(h0, .inr (10, [.ref h1, .ref h7, .int 0])), (h1, .inr (7, [.int 10, .int 20, .int 20, .int 20, .null, .ref h2, .ref h3, .ref h4, .ref h5, .ref h6, .int 0, .int 0, .int 0, .int 0, .int 0])), (h2, .inr (1, [.null, .null, .int 0])), (h3, .inr (1, [.null, .null, .int 0])), (h4, .inr (1, [.null, .null, .int 0])), (h5, .inr (1, [.null, .null, .int 0])), (h6, .inl (cI, 64, .inl (fun _ => 0))), (h7, .inl (cO, 0, .inr (.inr (.inr (.inr (fun _ => none))))))] sz) [] t) (va_A [(h0, .inr (10, [.ref h1, .ref h7, .int 0])), (h1, .inr (7, [.int 10, .int 20, .int 20, .int 20, .null, .ref h2, .ref h3, .ref h4, .ref h5, .ref h6, .int 0, .int 0, .int 0, .int 0, .int 0])), (h2, .inr (1, [.null, .null, .int 0])), (h3, .inr (1, [.null, .null, .int 0])), (h4, .inr (1, [.null, .null, .int 0])), (h5, .inr (1, [.null, .null, .int 0])), (h6, .inl (cI, 64, .inl (fun _ => 0))), (h7, .inl (cO, 0, .inr (.inr (.inr (.inr (fun _ => none))))))] sz)) 0 0 (va_A [(h0, .inr (10, [.ref h1, .ref h7, .int 0])), (h1, .inr (7, [.int 10, .int 20, .int 20, .int 20, .null, .ref h2, .ref h3, .ref h4, .ref h5, .ref h6, .int 0, .int 0, .int 0, .int 0, .int 0])), (h2, .inr (1, [.null, .null, .int 0])), (h3, .inr (1, [.null, .null, .int 0])), (h4, .inr (1, [.null, .null, .int 0])), (h5, .inr (1, [.null, .null, .int 0])), (h6, .inl (cI, 64, .inl (fun _ => 0))), (h7, .inl (cO, 0, .inr (.inr (.inr (.inr (fun _ => none))))))] sz) := by
  refine Met.ofW (cc := cX10_window) (maxL := 3) (ret := (some .int)) (by decide) rfl ?_
  intro p e s m args below meth c s₁ B hml hv
  obtain ⟨rfl, hsz, hP, hK, hD0, hN⟩ := hv
  have hx := B.exec
  have hb := B.bytes
  have hr := B.returns
  have hts := atoms_spec (ws := (wa yX10_window cX10_window 3 (some .int))) B.pre
  have ha : ∀ w ∈ wsL_law, w.before _ s = true := fun w h => hts w (List.mem_cons_of_mem _ h)
  have hown : s.vm.findClass RX10 = some m.cls := findClass_of_methodNamed B.named
  have hlocks := B.notSynchronized
  subst hsz
  have hD := hD0.self (sz := s.heap.size)
  generalize hAe : va_A [(h0, .inr (10, [.ref h1, .ref h7, .int 0])), (h1, .inr (7, [.int 10, .int 20, .int 20, .int 20, .null, .ref h2, .ref h3, .ref h4, .ref h5, .ref h6, .int 0, .int 0, .int 0, .int 0, .int 0])), (h2, .inr (1, [.null, .null, .int 0])), (h3, .inr (1, [.null, .null, .int 0])), (h4, .inr (1, [.null, .null, .int 0])), (h5, .inr (1, [.null, .null, .int 0])), (h6, .inl (cI, 64, .inl (fun _ => 0))), (h7, .inl (cO, 0, .inr (.inr (.inr (.inr (fun _ => none))))))] s.heap.size = A at hD ⊢
  have hA : ∀ q : Nat, s.heap.size ≤ q → A q := fun q h => by rw [← hAe]; exact Or.inr h
  have hS : va_S A s.heap s.heap [] := va_S.rf
  have hP : va_P D vwCl [(h0, .inr (10, [.ref h1, .ref h7, .int 0])), (h1, .inr (7, [.int 10, .int 20, .int 20, .int 20, .null, .ref h2, .ref h3, .ref h4, .ref h5, .ref h6, .int 0, .int 0, .int 0, .int 0, .int 0])), (h2, .inr (1, [.null, .null, .int 0])), (h3, .inr (1, [.null, .null, .int 0])), (h4, .inr (1, [.null, .null, .int 0])), (h5, .inr (1, [.null, .null, .int 0])), (h6, .inl (cI, 64, .inl (fun _ => 0))), (h7, .inl (cO, 0, .inr (.inr (.inr (.inr (fun _ => none))))))] s.heap := hP
  have hl := lv_entry ([.ref h0, .int a1, .int a2]) (n := 3) (Nat.le_of_ble_eq_true rfl)
  rw [lg_entry_eq]
  generalize (lg_sl ([.ref h0, .int a1, .int a2]) ++ List.replicate (3 - (lg_sl ([.ref h0, .int a1, .int a2])).length) Slot.unset).toArray = ls at hl ⊢
  have hl : lv_has ls 3 [(0, .ref h0), (1, .int a1), (2, .int a2)] := hl
  refine lv_aload_n hx hb dX10_window_0 rfl (lv_at hl 0 rfl) ?_
  refine lv_iload_n hx hb dX10_window_1 rfl (lv_at hl 1 rfl) ?_
  have hPc := hP.sub (ws' := [(h0, .inr (10, [.ref h1, .ref h7, .int 0])), (h7, .inl (cO, 0, .inr (.inr (.inr (.inr (fun _ => none))))))]) [0, 7] rfl
  have hDc := hD.sub (ws' := [(h0, .inr (10, [.ref h1, .ref h7, .int 0])), (h7, .inl (cO, 0, .inr (.inr (.inr (.inr (fun _ => none))))))]) [0, 7] (by decide) rfl
  have hFc := va_free (wc := [(h0, .inr (10, [.ref h1, .ref h7, .int 0])), (h7, .inl (cO, 0, .inr (.inr (.inr (.inr (fun _ => none))))))]) hD hS hA [0, 7] rfl
  refine va_calli (va_runV (As := [.int a1]) (rest := []) ⟨hx, hb, hml, hown, ha⟩ (c_isFlow l D cI cJ cZ cO _ h0 h1 h7 0 0 (fun _ => none) a1) (cwV 1 ha (gaV kl_X10_33 km_X10_isFlow ks_X10_isFlow kz_X10 kd_X10_isFlow) rfl rfl rfl (by decide +kernel) ⟨Nat.le_of_ble_eq_true rfl, Nat.le_of_ble_eq_true rfl⟩) ⟨pw_blind, va_recv hK hPc (ci := 10) (q0 := 0) rfl rfl, fun U hU hW => ⟨rfl, pw_start hU hW hPc hK hDc hN⟩⟩ rfl rfl hl.1 rfl (lv_room (Nat.le_of_ble_eq_true rfl)) dX10_window_2 ⟨Nat.le_of_ble_eq_true rfl, Nat.le_of_ble_eq_true rfl⟩) hS (fun q _ h => hFc q h) hFc (fun r_1 u t H1 locs ht hvm hw hB hz1 hk1 hS => ?_)
  obtain ⟨hP1, hK1, hD1⟩ := hB
  rw [ht] at hP1
  obtain ⟨hP, hD⟩ := va_join (wr := [(h1, .inr (7, [.int 10, .int 20, .int 20, .int 20, .null, .ref h2, .ref h3, .ref h4, .ref h5, .ref h6, .int 0, .int 0, .int 0, .int 0, .int 0])), (h2, .inr (1, [.null, .null, .int 0])), (h3, .inr (1, [.null, .null, .int 0])), (h4, .inr (1, [.null, .null, .int 0])), (h5, .inr (1, [.null, .null, .int 0])), (h6, .inl (cI, 64, .inl (fun _ => 0)))]) (w1 := [(h0, .inr (10, [.ref h1, .ref h7, .int 0])), (h7, .inl (cO, 0, .inr (.inr (.inr (.inr (fun _ => none))))))]) hP hD [0, 7] [1, 2, 3, 4, 5, 6] rfl rfl (by decide) (by decide) hk1 hFc hP1 hD1
  generalize H1 = H at hP hS ⊢
  have hP : va_P D vwCl [(h1, .inr (7, [.int 10, .int 20, .int 20, .int 20, .null, .ref h2, .ref h3, .ref h4, .ref h5, .ref h6, .int 0, .int 0, .int 0, .int 0, .int 0])), (h2, .inr (1, [.null, .null, .int 0])), (h3, .inr (1, [.null, .null, .int 0])), (h4, .inr (1, [.null, .null, .int 0])), (h5, .inr (1, [.null, .null, .int 0])), (h6, .inl (cI, 64, .inl (fun _ => 0))), (h0, .inr (10, [.ref h1, .ref h7, .int 0])), (h7, .inl (cO, 0, .inr (.inr (.inr (.inr (fun _ => none))))))] H := hP
  have hD : va_D A [(h1, .inr (7, [.int 10, .int 20, .int 20, .int 20, .null, .ref h2, .ref h3, .ref h4, .ref h5, .ref h6, .int 0, .int 0, .int 0, .int 0, .int 0])), (h2, .inr (1, [.null, .null, .int 0])), (h3, .inr (1, [.null, .null, .int 0])), (h4, .inr (1, [.null, .null, .int 0])), (h5, .inr (1, [.null, .null, .int 0])), (h6, .inl (cI, 64, .inl (fun _ => 0))), (h0, .inr (10, [.ref h1, .ref h7, .int 0])), (h7, .inl (cO, 0, .inr (.inr (.inr (.inr (fun _ => none))))))] := hD
  refine W.widen (k := 0) (n := 0) (Nat.le_of_ble_eq_true rfl) (Nat.le_of_ble_eq_true rfl) ?_
  obtain rfl : r_1 = 0 := hw.trans (isf_0 _)
  refine lv_if_eq (tgt := 19) hx hb dX10_window_5 (by decide) (fun c_2 => ?_) (fun c_2 => ?_)
  rotate_left
  · exact absurd (by decide) c_2
  refine lv_iconst (v := (-1)) hx hb dX10_window_19 (by decide) ?_
  exact W.iret (v := (-1)) hx hb hr (fun t ht hW => ⟨⟨(-1), (), rfl, rfl, ⟨pw_P0, va_K.moved hW.alike hK, pw_D0⟩⟩, hS.F ht⟩) hS.2.2 dX10_window_20

set_option maxHeartbeats 4000000 in
set_option maxRecDepth 100000 in
theorem c_sender (l : Launch) (D : va_G) (cI cJ cZ cO : ClassId) (sz : Nat) (h0 h1 h2 h3 h4 h5 h6 h7 : Nat) (a1 a2 : Int32) : Met l yX10_sender (wa yX10_sender cX10_sender 3 (some .int)) ({ frames := 1, cells := 0, slots := 0, locals := 21 }) (va_Pc [.ref h0, .int a1, .int a2] (pw_s D cI cJ cZ cO sz [(h0, .inr (10, [.ref h1, .ref h7, .int 0])), (h1, .inr (7, [.int 10, .int 20, .int 20, .int 20, .null, .ref h2, .ref h3, .ref h4, .ref h5, .ref h6, .int 0, .int 0, .int 0, .int 0, .int 0])), (h2, .inr (1, [.null, .null, .int 0])), (h3, .inr (1, [.null, .null, .int 0])), (h4, .inr (1, [.null, .null, .int 0])), (h5, .inr (1, [.null, .null, .int 0])), (h6, .inl (cI, 64, .inl (fun _ => 0))), (h7, .inl (cO, 0, .inr (.inr (.inr (.inr (fun _ => none))))))])) (va_Qi (fun (r : Int32) (_ : Unit) => r = -1) (fun (_ : Unit) (t : State) => pw_t D cI cJ cZ cO (va_A [(h0, .inr (10, [.ref h1, .ref h7, .int 0])), (h1, .inr (7, [.int 10, .int 20, .int 20, .int 20, .null, .ref h2, .ref h3, .ref h4, .ref h5, .ref h6, .int 0, .int 0, .int 0, .int 0, .int 0])), (h2, .inr (1, [.null, .null, .int 0])), (h3, .inr (1, [.null, .null, .int 0])), (h4, .inr (1, [.null, .null, .int 0])), (h5, .inr (1, [.null, .null, .int 0])), (h6, .inl (cI, 64, .inl (fun _ => 0))), (h7, .inl (cO, 0, .inr (.inr (.inr (.inr (fun _ => none))))))] sz) [] t) (va_A [(h0, .inr (10, [.ref h1, .ref h7, .int 0])), (h1, .inr (7, [.int 10, .int 20, .int 20, .int 20, .null, .ref h2, .ref h3, .ref h4, .ref h5, .ref h6, .int 0, .int 0, .int 0, .int 0, .int 0])), (h2, .inr (1, [.null, .null, .int 0])), (h3, .inr (1, [.null, .null, .int 0])), (h4, .inr (1, [.null, .null, .int 0])), (h5, .inr (1, [.null, .null, .int 0])), (h6, .inl (cI, 64, .inl (fun _ => 0))), (h7, .inl (cO, 0, .inr (.inr (.inr (.inr (fun _ => none))))))] sz)) 0 0 (va_A [(h0, .inr (10, [.ref h1, .ref h7, .int 0])), (h1, .inr (7, [.int 10, .int 20, .int 20, .int 20, .null, .ref h2, .ref h3, .ref h4, .ref h5, .ref h6, .int 0, .int 0, .int 0, .int 0, .int 0])), (h2, .inr (1, [.null, .null, .int 0])), (h3, .inr (1, [.null, .null, .int 0])), (h4, .inr (1, [.null, .null, .int 0])), (h5, .inr (1, [.null, .null, .int 0])), (h6, .inl (cI, 64, .inl (fun _ => 0))), (h7, .inl (cO, 0, .inr (.inr (.inr (.inr (fun _ => none))))))] sz) := by
  refine Met.ofW (cc := cX10_sender) (maxL := 3) (ret := (some .int)) (by decide) rfl ?_
  intro p e s m args below meth c s₁ B hml hv
  obtain ⟨rfl, hsz, hP, hK, hD0, hN⟩ := hv
  have hx := B.exec
  have hb := B.bytes
  have hr := B.returns
  have hts := atoms_spec (ws := (wa yX10_sender cX10_sender 3 (some .int))) B.pre
  have ha : ∀ w ∈ wsL_law, w.before _ s = true := fun w h => hts w (List.mem_cons_of_mem _ h)
  have hown : s.vm.findClass RX10 = some m.cls := findClass_of_methodNamed B.named
  have hlocks := B.notSynchronized
  subst hsz
  have hD := hD0.self (sz := s.heap.size)
  generalize hAe : va_A [(h0, .inr (10, [.ref h1, .ref h7, .int 0])), (h1, .inr (7, [.int 10, .int 20, .int 20, .int 20, .null, .ref h2, .ref h3, .ref h4, .ref h5, .ref h6, .int 0, .int 0, .int 0, .int 0, .int 0])), (h2, .inr (1, [.null, .null, .int 0])), (h3, .inr (1, [.null, .null, .int 0])), (h4, .inr (1, [.null, .null, .int 0])), (h5, .inr (1, [.null, .null, .int 0])), (h6, .inl (cI, 64, .inl (fun _ => 0))), (h7, .inl (cO, 0, .inr (.inr (.inr (.inr (fun _ => none))))))] s.heap.size = A at hD ⊢
  have hA : ∀ q : Nat, s.heap.size ≤ q → A q := fun q h => by rw [← hAe]; exact Or.inr h
  have hS : va_S A s.heap s.heap [] := va_S.rf
  have hP : va_P D vwCl [(h0, .inr (10, [.ref h1, .ref h7, .int 0])), (h1, .inr (7, [.int 10, .int 20, .int 20, .int 20, .null, .ref h2, .ref h3, .ref h4, .ref h5, .ref h6, .int 0, .int 0, .int 0, .int 0, .int 0])), (h2, .inr (1, [.null, .null, .int 0])), (h3, .inr (1, [.null, .null, .int 0])), (h4, .inr (1, [.null, .null, .int 0])), (h5, .inr (1, [.null, .null, .int 0])), (h6, .inl (cI, 64, .inl (fun _ => 0))), (h7, .inl (cO, 0, .inr (.inr (.inr (.inr (fun _ => none))))))] s.heap := hP
  have hl := lv_entry ([.ref h0, .int a1, .int a2]) (n := 3) (Nat.le_of_ble_eq_true rfl)
  rw [lg_entry_eq]
  generalize (lg_sl ([.ref h0, .int a1, .int a2]) ++ List.replicate (3 - (lg_sl ([.ref h0, .int a1, .int a2])).length) Slot.unset).toArray = ls at hl ⊢
  have hl : lv_has ls 3 [(0, .ref h0), (1, .int a1), (2, .int a2)] := hl
  refine lv_aload_n hx hb dX10_sender_0 rfl (lv_at hl 0 rfl) ?_
  refine lv_iload_n hx hb dX10_sender_1 rfl (lv_at hl 1 rfl) ?_
  have hPc := hP.sub (ws' := [(h0, .inr (10, [.ref h1, .ref h7, .int 0])), (h7, .inl (cO, 0, .inr (.inr (.inr (.inr (fun _ => none))))))]) [0, 7] rfl
  have hDc := hD.sub (ws' := [(h0, .inr (10, [.ref h1, .ref h7, .int 0])), (h7, .inl (cO, 0, .inr (.inr (.inr (.inr (fun _ => none))))))]) [0, 7] (by decide) rfl
  have hFc := va_free (wc := [(h0, .inr (10, [.ref h1, .ref h7, .int 0])), (h7, .inl (cO, 0, .inr (.inr (.inr (.inr (fun _ => none))))))]) hD hS hA [0, 7] rfl
  refine va_calli (va_runV (As := [.int a1]) (rest := []) ⟨hx, hb, hml, hown, ha⟩ (c_isFlow l D cI cJ cZ cO _ h0 h1 h7 0 0 (fun _ => none) a1) (cwV 1 ha (gaV kl_X10_33 km_X10_isFlow ks_X10_isFlow kz_X10 kd_X10_isFlow) rfl rfl rfl (by decide +kernel) ⟨Nat.le_of_ble_eq_true rfl, Nat.le_of_ble_eq_true rfl⟩) ⟨pw_blind, va_recv hK hPc (ci := 10) (q0 := 0) rfl rfl, fun U hU hW => ⟨rfl, pw_start hU hW hPc hK hDc hN⟩⟩ rfl rfl hl.1 rfl (lv_room (Nat.le_of_ble_eq_true rfl)) dX10_sender_2 ⟨Nat.le_of_ble_eq_true rfl, Nat.le_of_ble_eq_true rfl⟩) hS (fun q _ h => hFc q h) hFc (fun r_1 u t H1 locs ht hvm hw hB hz1 hk1 hS => ?_)
  obtain ⟨hP1, hK1, hD1⟩ := hB
  rw [ht] at hP1
  obtain ⟨hP, hD⟩ := va_join (wr := [(h1, .inr (7, [.int 10, .int 20, .int 20, .int 20, .null, .ref h2, .ref h3, .ref h4, .ref h5, .ref h6, .int 0, .int 0, .int 0, .int 0, .int 0])), (h2, .inr (1, [.null, .null, .int 0])), (h3, .inr (1, [.null, .null, .int 0])), (h4, .inr (1, [.null, .null, .int 0])), (h5, .inr (1, [.null, .null, .int 0])), (h6, .inl (cI, 64, .inl (fun _ => 0)))]) (w1 := [(h0, .inr (10, [.ref h1, .ref h7, .int 0])), (h7, .inl (cO, 0, .inr (.inr (.inr (.inr (fun _ => none))))))]) hP hD [0, 7] [1, 2, 3, 4, 5, 6] rfl rfl (by decide) (by decide) hk1 hFc hP1 hD1
  generalize H1 = H at hP hS ⊢
  have hP : va_P D vwCl [(h1, .inr (7, [.int 10, .int 20, .int 20, .int 20, .null, .ref h2, .ref h3, .ref h4, .ref h5, .ref h6, .int 0, .int 0, .int 0, .int 0, .int 0])), (h2, .inr (1, [.null, .null, .int 0])), (h3, .inr (1, [.null, .null, .int 0])), (h4, .inr (1, [.null, .null, .int 0])), (h5, .inr (1, [.null, .null, .int 0])), (h6, .inl (cI, 64, .inl (fun _ => 0))), (h0, .inr (10, [.ref h1, .ref h7, .int 0])), (h7, .inl (cO, 0, .inr (.inr (.inr (.inr (fun _ => none))))))] H := hP
  have hD : va_D A [(h1, .inr (7, [.int 10, .int 20, .int 20, .int 20, .null, .ref h2, .ref h3, .ref h4, .ref h5, .ref h6, .int 0, .int 0, .int 0, .int 0, .int 0])), (h2, .inr (1, [.null, .null, .int 0])), (h3, .inr (1, [.null, .null, .int 0])), (h4, .inr (1, [.null, .null, .int 0])), (h5, .inr (1, [.null, .null, .int 0])), (h6, .inl (cI, 64, .inl (fun _ => 0))), (h0, .inr (10, [.ref h1, .ref h7, .int 0])), (h7, .inl (cO, 0, .inr (.inr (.inr (.inr (fun _ => none))))))] := hD
  refine W.widen (k := 0) (n := 0) (Nat.le_of_ble_eq_true rfl) (Nat.le_of_ble_eq_true rfl) ?_
  obtain rfl : r_1 = 0 := hw.trans (isf_0 _)
  refine lv_if_eq (tgt := 24) hx hb dX10_sender_5 (by decide) (fun c_2 => ?_) (fun c_2 => ?_)
  rotate_left
  · exact absurd (by decide) c_2
  refine lv_iconst (v := (-1)) hx hb dX10_sender_24 (by decide) ?_
  exact W.iret (v := (-1)) hx hb hr (fun t ht hW => ⟨⟨(-1), (), rfl, rfl, ⟨pw_P0, va_K.moved hW.alike hK, pw_D0⟩⟩, hS.F ht⟩) hS.2.2 dX10_sender_25

set_option maxHeartbeats 4000000 in
set_option maxRecDepth 100000 in
theorem c_receiver (l : Launch) (D : va_G) (cI cJ cZ cO : ClassId) (sz : Nat) (h0 h1 h2 h3 h4 h5 h6 h7 : Nat) (a1 a2 : Int32) : Met l yX10_receiver (wa yX10_receiver cX10_receiver 3 (some .int)) ({ frames := 1, cells := 0, slots := 0, locals := 21 }) (va_Pc [.ref h0, .int a1, .int a2] (pw_s D cI cJ cZ cO sz [(h0, .inr (10, [.ref h1, .ref h7, .int 0])), (h1, .inr (7, [.int 10, .int 20, .int 20, .int 20, .null, .ref h2, .ref h3, .ref h4, .ref h5, .ref h6, .int 0, .int 0, .int 0, .int 0, .int 0])), (h2, .inr (1, [.null, .null, .int 0])), (h3, .inr (1, [.null, .null, .int 0])), (h4, .inr (1, [.null, .null, .int 0])), (h5, .inr (1, [.null, .null, .int 0])), (h6, .inl (cI, 64, .inl (fun _ => 0))), (h7, .inl (cO, 0, .inr (.inr (.inr (.inr (fun _ => none))))))])) (va_Qi (fun (r : Int32) (_ : Unit) => r = -1) (fun (_ : Unit) (t : State) => pw_t D cI cJ cZ cO (va_A [(h0, .inr (10, [.ref h1, .ref h7, .int 0])), (h1, .inr (7, [.int 10, .int 20, .int 20, .int 20, .null, .ref h2, .ref h3, .ref h4, .ref h5, .ref h6, .int 0, .int 0, .int 0, .int 0, .int 0])), (h2, .inr (1, [.null, .null, .int 0])), (h3, .inr (1, [.null, .null, .int 0])), (h4, .inr (1, [.null, .null, .int 0])), (h5, .inr (1, [.null, .null, .int 0])), (h6, .inl (cI, 64, .inl (fun _ => 0))), (h7, .inl (cO, 0, .inr (.inr (.inr (.inr (fun _ => none))))))] sz) [] t) (va_A [(h0, .inr (10, [.ref h1, .ref h7, .int 0])), (h1, .inr (7, [.int 10, .int 20, .int 20, .int 20, .null, .ref h2, .ref h3, .ref h4, .ref h5, .ref h6, .int 0, .int 0, .int 0, .int 0, .int 0])), (h2, .inr (1, [.null, .null, .int 0])), (h3, .inr (1, [.null, .null, .int 0])), (h4, .inr (1, [.null, .null, .int 0])), (h5, .inr (1, [.null, .null, .int 0])), (h6, .inl (cI, 64, .inl (fun _ => 0))), (h7, .inl (cO, 0, .inr (.inr (.inr (.inr (fun _ => none))))))] sz)) 0 0 (va_A [(h0, .inr (10, [.ref h1, .ref h7, .int 0])), (h1, .inr (7, [.int 10, .int 20, .int 20, .int 20, .null, .ref h2, .ref h3, .ref h4, .ref h5, .ref h6, .int 0, .int 0, .int 0, .int 0, .int 0])), (h2, .inr (1, [.null, .null, .int 0])), (h3, .inr (1, [.null, .null, .int 0])), (h4, .inr (1, [.null, .null, .int 0])), (h5, .inr (1, [.null, .null, .int 0])), (h6, .inl (cI, 64, .inl (fun _ => 0))), (h7, .inl (cO, 0, .inr (.inr (.inr (.inr (fun _ => none))))))] sz) := by
  refine Met.ofW (cc := cX10_receiver) (maxL := 3) (ret := (some .int)) (by decide) rfl ?_
  intro p e s m args below meth c s₁ B hml hv
  obtain ⟨rfl, hsz, hP, hK, hD0, hN⟩ := hv
  have hx := B.exec
  have hb := B.bytes
  have hr := B.returns
  have hts := atoms_spec (ws := (wa yX10_receiver cX10_receiver 3 (some .int))) B.pre
  have ha : ∀ w ∈ wsL_law, w.before _ s = true := fun w h => hts w (List.mem_cons_of_mem _ h)
  have hown : s.vm.findClass RX10 = some m.cls := findClass_of_methodNamed B.named
  have hlocks := B.notSynchronized
  subst hsz
  have hD := hD0.self (sz := s.heap.size)
  generalize hAe : va_A [(h0, .inr (10, [.ref h1, .ref h7, .int 0])), (h1, .inr (7, [.int 10, .int 20, .int 20, .int 20, .null, .ref h2, .ref h3, .ref h4, .ref h5, .ref h6, .int 0, .int 0, .int 0, .int 0, .int 0])), (h2, .inr (1, [.null, .null, .int 0])), (h3, .inr (1, [.null, .null, .int 0])), (h4, .inr (1, [.null, .null, .int 0])), (h5, .inr (1, [.null, .null, .int 0])), (h6, .inl (cI, 64, .inl (fun _ => 0))), (h7, .inl (cO, 0, .inr (.inr (.inr (.inr (fun _ => none))))))] s.heap.size = A at hD ⊢
  have hA : ∀ q : Nat, s.heap.size ≤ q → A q := fun q h => by rw [← hAe]; exact Or.inr h
  have hS : va_S A s.heap s.heap [] := va_S.rf
  have hP : va_P D vwCl [(h0, .inr (10, [.ref h1, .ref h7, .int 0])), (h1, .inr (7, [.int 10, .int 20, .int 20, .int 20, .null, .ref h2, .ref h3, .ref h4, .ref h5, .ref h6, .int 0, .int 0, .int 0, .int 0, .int 0])), (h2, .inr (1, [.null, .null, .int 0])), (h3, .inr (1, [.null, .null, .int 0])), (h4, .inr (1, [.null, .null, .int 0])), (h5, .inr (1, [.null, .null, .int 0])), (h6, .inl (cI, 64, .inl (fun _ => 0))), (h7, .inl (cO, 0, .inr (.inr (.inr (.inr (fun _ => none))))))] s.heap := hP
  have hl := lv_entry ([.ref h0, .int a1, .int a2]) (n := 3) (Nat.le_of_ble_eq_true rfl)
  rw [lg_entry_eq]
  generalize (lg_sl ([.ref h0, .int a1, .int a2]) ++ List.replicate (3 - (lg_sl ([.ref h0, .int a1, .int a2])).length) Slot.unset).toArray = ls at hl ⊢
  have hl : lv_has ls 3 [(0, .ref h0), (1, .int a1), (2, .int a2)] := hl
  refine lv_aload_n hx hb dX10_receiver_0 rfl (lv_at hl 0 rfl) ?_
  refine lv_iload_n hx hb dX10_receiver_1 rfl (lv_at hl 1 rfl) ?_
  have hPc := hP.sub (ws' := [(h0, .inr (10, [.ref h1, .ref h7, .int 0])), (h7, .inl (cO, 0, .inr (.inr (.inr (.inr (fun _ => none))))))]) [0, 7] rfl
  have hDc := hD.sub (ws' := [(h0, .inr (10, [.ref h1, .ref h7, .int 0])), (h7, .inl (cO, 0, .inr (.inr (.inr (.inr (fun _ => none))))))]) [0, 7] (by decide) rfl
  have hFc := va_free (wc := [(h0, .inr (10, [.ref h1, .ref h7, .int 0])), (h7, .inl (cO, 0, .inr (.inr (.inr (.inr (fun _ => none))))))]) hD hS hA [0, 7] rfl
  refine va_calli (va_runV (As := [.int a1]) (rest := []) ⟨hx, hb, hml, hown, ha⟩ (c_isFlow l D cI cJ cZ cO _ h0 h1 h7 0 0 (fun _ => none) a1) (cwV 1 ha (gaV kl_X10_33 km_X10_isFlow ks_X10_isFlow kz_X10 kd_X10_isFlow) rfl rfl rfl (by decide +kernel) ⟨Nat.le_of_ble_eq_true rfl, Nat.le_of_ble_eq_true rfl⟩) ⟨pw_blind, va_recv hK hPc (ci := 10) (q0 := 0) rfl rfl, fun U hU hW => ⟨rfl, pw_start hU hW hPc hK hDc hN⟩⟩ rfl rfl hl.1 rfl (lv_room (Nat.le_of_ble_eq_true rfl)) dX10_receiver_2 ⟨Nat.le_of_ble_eq_true rfl, Nat.le_of_ble_eq_true rfl⟩) hS (fun q _ h => hFc q h) hFc (fun r_1 u t H1 locs ht hvm hw hB hz1 hk1 hS => ?_)
  obtain ⟨hP1, hK1, hD1⟩ := hB
  rw [ht] at hP1
  obtain ⟨hP, hD⟩ := va_join (wr := [(h1, .inr (7, [.int 10, .int 20, .int 20, .int 20, .null, .ref h2, .ref h3, .ref h4, .ref h5, .ref h6, .int 0, .int 0, .int 0, .int 0, .int 0])), (h2, .inr (1, [.null, .null, .int 0])), (h3, .inr (1, [.null, .null, .int 0])), (h4, .inr (1, [.null, .null, .int 0])), (h5, .inr (1, [.null, .null, .int 0])), (h6, .inl (cI, 64, .inl (fun _ => 0)))]) (w1 := [(h0, .inr (10, [.ref h1, .ref h7, .int 0])), (h7, .inl (cO, 0, .inr (.inr (.inr (.inr (fun _ => none))))))]) hP hD [0, 7] [1, 2, 3, 4, 5, 6] rfl rfl (by decide) (by decide) hk1 hFc hP1 hD1
  generalize H1 = H at hP hS ⊢
  have hP : va_P D vwCl [(h1, .inr (7, [.int 10, .int 20, .int 20, .int 20, .null, .ref h2, .ref h3, .ref h4, .ref h5, .ref h6, .int 0, .int 0, .int 0, .int 0, .int 0])), (h2, .inr (1, [.null, .null, .int 0])), (h3, .inr (1, [.null, .null, .int 0])), (h4, .inr (1, [.null, .null, .int 0])), (h5, .inr (1, [.null, .null, .int 0])), (h6, .inl (cI, 64, .inl (fun _ => 0))), (h0, .inr (10, [.ref h1, .ref h7, .int 0])), (h7, .inl (cO, 0, .inr (.inr (.inr (.inr (fun _ => none))))))] H := hP
  have hD : va_D A [(h1, .inr (7, [.int 10, .int 20, .int 20, .int 20, .null, .ref h2, .ref h3, .ref h4, .ref h5, .ref h6, .int 0, .int 0, .int 0, .int 0, .int 0])), (h2, .inr (1, [.null, .null, .int 0])), (h3, .inr (1, [.null, .null, .int 0])), (h4, .inr (1, [.null, .null, .int 0])), (h5, .inr (1, [.null, .null, .int 0])), (h6, .inl (cI, 64, .inl (fun _ => 0))), (h0, .inr (10, [.ref h1, .ref h7, .int 0])), (h7, .inl (cO, 0, .inr (.inr (.inr (.inr (fun _ => none))))))] := hD
  refine W.widen (k := 0) (n := 0) (Nat.le_of_ble_eq_true rfl) (Nat.le_of_ble_eq_true rfl) ?_
  obtain rfl : r_1 = 0 := hw.trans (isf_0 _)
  refine lv_if_eq (tgt := 24) hx hb dX10_receiver_5 (by decide) (fun c_2 => ?_) (fun c_2 => ?_)
  rotate_left
  · exact absurd (by decide) c_2
  refine lv_iconst (v := (-1)) hx hb dX10_receiver_24 (by decide) ?_
  exact W.iret (v := (-1)) hx hb hr (fun t ht hW => ⟨⟨(-1), (), rfl, rfl, ⟨pw_P0, va_K.moved hW.alike hK, pw_D0⟩⟩, hS.F ht⟩) hS.2.2 dX10_receiver_25

set_option maxHeartbeats 4000000 in
set_option maxRecDepth 100000 in
theorem c_kept (l : Launch) (D : va_G) (cI cJ cZ cO : ClassId) (sz : Nat) (h0 h1 h2 h3 h4 h5 h6 h7 : Nat) (a1 a2 : Int32) : Met l yX10_kept (wa yX10_kept cX10_kept 3 (some .int)) ({ frames := 1, cells := 0, slots := 0, locals := 21 }) (va_Pc [.ref h0, .int a1, .int a2] (pw_s D cI cJ cZ cO sz [(h0, .inr (10, [.ref h1, .ref h7, .int 0])), (h1, .inr (7, [.int 10, .int 20, .int 20, .int 20, .null, .ref h2, .ref h3, .ref h4, .ref h5, .ref h6, .int 0, .int 0, .int 0, .int 0, .int 0])), (h2, .inr (1, [.null, .null, .int 0])), (h3, .inr (1, [.null, .null, .int 0])), (h4, .inr (1, [.null, .null, .int 0])), (h5, .inr (1, [.null, .null, .int 0])), (h6, .inl (cI, 64, .inl (fun _ => 0))), (h7, .inl (cO, 0, .inr (.inr (.inr (.inr (fun _ => none))))))])) (va_Qi (fun (r : Int32) (_ : Unit) => r = -1) (fun (_ : Unit) (t : State) => pw_t D cI cJ cZ cO (va_A [(h0, .inr (10, [.ref h1, .ref h7, .int 0])), (h1, .inr (7, [.int 10, .int 20, .int 20, .int 20, .null, .ref h2, .ref h3, .ref h4, .ref h5, .ref h6, .int 0, .int 0, .int 0, .int 0, .int 0])), (h2, .inr (1, [.null, .null, .int 0])), (h3, .inr (1, [.null, .null, .int 0])), (h4, .inr (1, [.null, .null, .int 0])), (h5, .inr (1, [.null, .null, .int 0])), (h6, .inl (cI, 64, .inl (fun _ => 0))), (h7, .inl (cO, 0, .inr (.inr (.inr (.inr (fun _ => none))))))] sz) [] t) (va_A [(h0, .inr (10, [.ref h1, .ref h7, .int 0])), (h1, .inr (7, [.int 10, .int 20, .int 20, .int 20, .null, .ref h2, .ref h3, .ref h4, .ref h5, .ref h6, .int 0, .int 0, .int 0, .int 0, .int 0])), (h2, .inr (1, [.null, .null, .int 0])), (h3, .inr (1, [.null, .null, .int 0])), (h4, .inr (1, [.null, .null, .int 0])), (h5, .inr (1, [.null, .null, .int 0])), (h6, .inl (cI, 64, .inl (fun _ => 0))), (h7, .inl (cO, 0, .inr (.inr (.inr (.inr (fun _ => none))))))] sz)) 0 0 (va_A [(h0, .inr (10, [.ref h1, .ref h7, .int 0])), (h1, .inr (7, [.int 10, .int 20, .int 20, .int 20, .null, .ref h2, .ref h3, .ref h4, .ref h5, .ref h6, .int 0, .int 0, .int 0, .int 0, .int 0])), (h2, .inr (1, [.null, .null, .int 0])), (h3, .inr (1, [.null, .null, .int 0])), (h4, .inr (1, [.null, .null, .int 0])), (h5, .inr (1, [.null, .null, .int 0])), (h6, .inl (cI, 64, .inl (fun _ => 0))), (h7, .inl (cO, 0, .inr (.inr (.inr (.inr (fun _ => none))))))] sz) := by
  refine Met.ofW (cc := cX10_kept) (maxL := 3) (ret := (some .int)) (by decide) rfl ?_
  intro p e s m args below meth c s₁ B hml hv
  obtain ⟨rfl, hsz, hP, hK, hD0, hN⟩ := hv
  have hx := B.exec
  have hb := B.bytes
  have hr := B.returns
  have hts := atoms_spec (ws := (wa yX10_kept cX10_kept 3 (some .int))) B.pre
  have ha : ∀ w ∈ wsL_law, w.before _ s = true := fun w h => hts w (List.mem_cons_of_mem _ h)
  have hown : s.vm.findClass RX10 = some m.cls := findClass_of_methodNamed B.named
  have hlocks := B.notSynchronized
  subst hsz
  have hD := hD0.self (sz := s.heap.size)
  generalize hAe : va_A [(h0, .inr (10, [.ref h1, .ref h7, .int 0])), (h1, .inr (7, [.int 10, .int 20, .int 20, .int 20, .null, .ref h2, .ref h3, .ref h4, .ref h5, .ref h6, .int 0, .int 0, .int 0, .int 0, .int 0])), (h2, .inr (1, [.null, .null, .int 0])), (h3, .inr (1, [.null, .null, .int 0])), (h4, .inr (1, [.null, .null, .int 0])), (h5, .inr (1, [.null, .null, .int 0])), (h6, .inl (cI, 64, .inl (fun _ => 0))), (h7, .inl (cO, 0, .inr (.inr (.inr (.inr (fun _ => none))))))] s.heap.size = A at hD ⊢
  have hA : ∀ q : Nat, s.heap.size ≤ q → A q := fun q h => by rw [← hAe]; exact Or.inr h
  have hS : va_S A s.heap s.heap [] := va_S.rf
  have hP : va_P D vwCl [(h0, .inr (10, [.ref h1, .ref h7, .int 0])), (h1, .inr (7, [.int 10, .int 20, .int 20, .int 20, .null, .ref h2, .ref h3, .ref h4, .ref h5, .ref h6, .int 0, .int 0, .int 0, .int 0, .int 0])), (h2, .inr (1, [.null, .null, .int 0])), (h3, .inr (1, [.null, .null, .int 0])), (h4, .inr (1, [.null, .null, .int 0])), (h5, .inr (1, [.null, .null, .int 0])), (h6, .inl (cI, 64, .inl (fun _ => 0))), (h7, .inl (cO, 0, .inr (.inr (.inr (.inr (fun _ => none))))))] s.heap := hP
  have hl := lv_entry ([.ref h0, .int a1, .int a2]) (n := 3) (Nat.le_of_ble_eq_true rfl)
  rw [lg_entry_eq]
  generalize (lg_sl ([.ref h0, .int a1, .int a2]) ++ List.replicate (3 - (lg_sl ([.ref h0, .int a1, .int a2])).length) Slot.unset).toArray = ls at hl ⊢
  have hl : lv_has ls 3 [(0, .ref h0), (1, .int a1), (2, .int a2)] := hl
  refine lv_aload_n hx hb dX10_kept_0 rfl (lv_at hl 0 rfl) ?_
  refine lv_iload_n hx hb dX10_kept_1 rfl (lv_at hl 1 rfl) ?_
  have hPc := hP.sub (ws' := [(h0, .inr (10, [.ref h1, .ref h7, .int 0])), (h7, .inl (cO, 0, .inr (.inr (.inr (.inr (fun _ => none))))))]) [0, 7] rfl
  have hDc := hD.sub (ws' := [(h0, .inr (10, [.ref h1, .ref h7, .int 0])), (h7, .inl (cO, 0, .inr (.inr (.inr (.inr (fun _ => none))))))]) [0, 7] (by decide) rfl
  have hFc := va_free (wc := [(h0, .inr (10, [.ref h1, .ref h7, .int 0])), (h7, .inl (cO, 0, .inr (.inr (.inr (.inr (fun _ => none))))))]) hD hS hA [0, 7] rfl
  refine va_calli (va_runV (As := [.int a1]) (rest := []) ⟨hx, hb, hml, hown, ha⟩ (c_isFlow l D cI cJ cZ cO _ h0 h1 h7 0 0 (fun _ => none) a1) (cwV 1 ha (gaV kl_X10_33 km_X10_isFlow ks_X10_isFlow kz_X10 kd_X10_isFlow) rfl rfl rfl (by decide +kernel) ⟨Nat.le_of_ble_eq_true rfl, Nat.le_of_ble_eq_true rfl⟩) ⟨pw_blind, va_recv hK hPc (ci := 10) (q0 := 0) rfl rfl, fun U hU hW => ⟨rfl, pw_start hU hW hPc hK hDc hN⟩⟩ rfl rfl hl.1 rfl (lv_room (Nat.le_of_ble_eq_true rfl)) dX10_kept_2 ⟨Nat.le_of_ble_eq_true rfl, Nat.le_of_ble_eq_true rfl⟩) hS (fun q _ h => hFc q h) hFc (fun r_1 u t H1 locs ht hvm hw hB hz1 hk1 hS => ?_)
  obtain ⟨hP1, hK1, hD1⟩ := hB
  rw [ht] at hP1
  obtain ⟨hP, hD⟩ := va_join (wr := [(h1, .inr (7, [.int 10, .int 20, .int 20, .int 20, .null, .ref h2, .ref h3, .ref h4, .ref h5, .ref h6, .int 0, .int 0, .int 0, .int 0, .int 0])), (h2, .inr (1, [.null, .null, .int 0])), (h3, .inr (1, [.null, .null, .int 0])), (h4, .inr (1, [.null, .null, .int 0])), (h5, .inr (1, [.null, .null, .int 0])), (h6, .inl (cI, 64, .inl (fun _ => 0)))]) (w1 := [(h0, .inr (10, [.ref h1, .ref h7, .int 0])), (h7, .inl (cO, 0, .inr (.inr (.inr (.inr (fun _ => none))))))]) hP hD [0, 7] [1, 2, 3, 4, 5, 6] rfl rfl (by decide) (by decide) hk1 hFc hP1 hD1
  generalize H1 = H at hP hS ⊢
  have hP : va_P D vwCl [(h1, .inr (7, [.int 10, .int 20, .int 20, .int 20, .null, .ref h2, .ref h3, .ref h4, .ref h5, .ref h6, .int 0, .int 0, .int 0, .int 0, .int 0])), (h2, .inr (1, [.null, .null, .int 0])), (h3, .inr (1, [.null, .null, .int 0])), (h4, .inr (1, [.null, .null, .int 0])), (h5, .inr (1, [.null, .null, .int 0])), (h6, .inl (cI, 64, .inl (fun _ => 0))), (h0, .inr (10, [.ref h1, .ref h7, .int 0])), (h7, .inl (cO, 0, .inr (.inr (.inr (.inr (fun _ => none))))))] H := hP
  have hD : va_D A [(h1, .inr (7, [.int 10, .int 20, .int 20, .int 20, .null, .ref h2, .ref h3, .ref h4, .ref h5, .ref h6, .int 0, .int 0, .int 0, .int 0, .int 0])), (h2, .inr (1, [.null, .null, .int 0])), (h3, .inr (1, [.null, .null, .int 0])), (h4, .inr (1, [.null, .null, .int 0])), (h5, .inr (1, [.null, .null, .int 0])), (h6, .inl (cI, 64, .inl (fun _ => 0))), (h0, .inr (10, [.ref h1, .ref h7, .int 0])), (h7, .inl (cO, 0, .inr (.inr (.inr (.inr (fun _ => none))))))] := hD
  refine W.widen (k := 0) (n := 0) (Nat.le_of_ble_eq_true rfl) (Nat.le_of_ble_eq_true rfl) ?_
  obtain rfl : r_1 = 0 := hw.trans (isf_0 _)
  refine lv_if_eq (tgt := 24) hx hb dX10_kept_5 (by decide) (fun c_2 => ?_) (fun c_2 => ?_)
  rotate_left
  · exact absurd (by decide) c_2
  refine lv_iconst (v := (-1)) hx hb dX10_kept_24 (by decide) ?_
  exact W.iret (v := (-1)) hx hb hr (fun t ht hW => ⟨⟨(-1), (), rfl, rfl, ⟨pw_P0, va_K.moved hW.alike hK, pw_D0⟩⟩, hS.F ht⟩) hS.2.2 dX10_kept_25

set_option maxHeartbeats 4000000 in
set_option maxRecDepth 100000 in
theorem c_most (l : Launch) (D : va_G) (cI cJ cZ cO : ClassId) (sz : Nat) (h0 h1 h2 h3 h4 h5 h6 h7 : Nat) (a1 : Int32) : Met l yX10_most (wa yX10_most cX10_most 2 (some .int)) ({ frames := 1, cells := 0, slots := 0, locals := 21 }) (va_Pc [.ref h0, .int a1] (pw_s D cI cJ cZ cO sz [(h0, .inr (10, [.ref h1, .ref h7, .int 0])), (h1, .inr (7, [.int 10, .int 20, .int 20, .int 20, .null, .ref h2, .ref h3, .ref h4, .ref h5, .ref h6, .int 0, .int 0, .int 0, .int 0, .int 0])), (h2, .inr (1, [.null, .null, .int 0])), (h3, .inr (1, [.null, .null, .int 0])), (h4, .inr (1, [.null, .null, .int 0])), (h5, .inr (1, [.null, .null, .int 0])), (h6, .inl (cI, 64, .inl (fun _ => 0))), (h7, .inl (cO, 0, .inr (.inr (.inr (.inr (fun _ => none))))))])) (va_Qi (fun (r : Int32) (_ : Unit) => r = 0) (fun (_ : Unit) (t : State) => pw_t D cI cJ cZ cO (va_A [(h0, .inr (10, [.ref h1, .ref h7, .int 0])), (h1, .inr (7, [.int 10, .int 20, .int 20, .int 20, .null, .ref h2, .ref h3, .ref h4, .ref h5, .ref h6, .int 0, .int 0, .int 0, .int 0, .int 0])), (h2, .inr (1, [.null, .null, .int 0])), (h3, .inr (1, [.null, .null, .int 0])), (h4, .inr (1, [.null, .null, .int 0])), (h5, .inr (1, [.null, .null, .int 0])), (h6, .inl (cI, 64, .inl (fun _ => 0))), (h7, .inl (cO, 0, .inr (.inr (.inr (.inr (fun _ => none))))))] sz) [] t) (va_A [(h0, .inr (10, [.ref h1, .ref h7, .int 0])), (h1, .inr (7, [.int 10, .int 20, .int 20, .int 20, .null, .ref h2, .ref h3, .ref h4, .ref h5, .ref h6, .int 0, .int 0, .int 0, .int 0, .int 0])), (h2, .inr (1, [.null, .null, .int 0])), (h3, .inr (1, [.null, .null, .int 0])), (h4, .inr (1, [.null, .null, .int 0])), (h5, .inr (1, [.null, .null, .int 0])), (h6, .inl (cI, 64, .inl (fun _ => 0))), (h7, .inl (cO, 0, .inr (.inr (.inr (.inr (fun _ => none))))))] sz)) 0 0 (va_A [(h0, .inr (10, [.ref h1, .ref h7, .int 0])), (h1, .inr (7, [.int 10, .int 20, .int 20, .int 20, .null, .ref h2, .ref h3, .ref h4, .ref h5, .ref h6, .int 0, .int 0, .int 0, .int 0, .int 0])), (h2, .inr (1, [.null, .null, .int 0])), (h3, .inr (1, [.null, .null, .int 0])), (h4, .inr (1, [.null, .null, .int 0])), (h5, .inr (1, [.null, .null, .int 0])), (h6, .inl (cI, 64, .inl (fun _ => 0))), (h7, .inl (cO, 0, .inr (.inr (.inr (.inr (fun _ => none))))))] sz) := by
  refine Met.ofW (cc := cX10_most) (maxL := 2) (ret := (some .int)) (by decide) rfl ?_
  intro p e s m args below meth c s₁ B hml hv
  obtain ⟨rfl, hsz, hP, hK, hD0, hN⟩ := hv
  have hx := B.exec
  have hb := B.bytes
  have hr := B.returns
  have hts := atoms_spec (ws := (wa yX10_most cX10_most 2 (some .int))) B.pre
  have ha : ∀ w ∈ wsL_law, w.before _ s = true := fun w h => hts w (List.mem_cons_of_mem _ h)
  have hown : s.vm.findClass RX10 = some m.cls := findClass_of_methodNamed B.named
  have hlocks := B.notSynchronized
  subst hsz
  have hD := hD0.self (sz := s.heap.size)
  generalize hAe : va_A [(h0, .inr (10, [.ref h1, .ref h7, .int 0])), (h1, .inr (7, [.int 10, .int 20, .int 20, .int 20, .null, .ref h2, .ref h3, .ref h4, .ref h5, .ref h6, .int 0, .int 0, .int 0, .int 0, .int 0])), (h2, .inr (1, [.null, .null, .int 0])), (h3, .inr (1, [.null, .null, .int 0])), (h4, .inr (1, [.null, .null, .int 0])), (h5, .inr (1, [.null, .null, .int 0])), (h6, .inl (cI, 64, .inl (fun _ => 0))), (h7, .inl (cO, 0, .inr (.inr (.inr (.inr (fun _ => none))))))] s.heap.size = A at hD ⊢
  have hA : ∀ q : Nat, s.heap.size ≤ q → A q := fun q h => by rw [← hAe]; exact Or.inr h
  have hS : va_S A s.heap s.heap [] := va_S.rf
  have hP : va_P D vwCl [(h0, .inr (10, [.ref h1, .ref h7, .int 0])), (h1, .inr (7, [.int 10, .int 20, .int 20, .int 20, .null, .ref h2, .ref h3, .ref h4, .ref h5, .ref h6, .int 0, .int 0, .int 0, .int 0, .int 0])), (h2, .inr (1, [.null, .null, .int 0])), (h3, .inr (1, [.null, .null, .int 0])), (h4, .inr (1, [.null, .null, .int 0])), (h5, .inr (1, [.null, .null, .int 0])), (h6, .inl (cI, 64, .inl (fun _ => 0))), (h7, .inl (cO, 0, .inr (.inr (.inr (.inr (fun _ => none))))))] s.heap := hP
  have hl := lv_entry ([.ref h0, .int a1]) (n := 2) (Nat.le_of_ble_eq_true rfl)
  rw [lg_entry_eq]
  generalize (lg_sl ([.ref h0, .int a1]) ++ List.replicate (2 - (lg_sl ([.ref h0, .int a1])).length) Slot.unset).toArray = ls at hl ⊢
  have hl : lv_has ls 2 [(0, .ref h0), (1, .int a1)] := hl
  refine lv_aload_n hx hb dX10_most_0 rfl (lv_at hl 0 rfl) ?_
  refine lv_iload_n hx hb dX10_most_1 rfl (lv_at hl 1 rfl) ?_
  have hPc := hP.sub (ws' := [(h0, .inr (10, [.ref h1, .ref h7, .int 0])), (h7, .inl (cO, 0, .inr (.inr (.inr (.inr (fun _ => none))))))]) [0, 7] rfl
  have hDc := hD.sub (ws' := [(h0, .inr (10, [.ref h1, .ref h7, .int 0])), (h7, .inl (cO, 0, .inr (.inr (.inr (.inr (fun _ => none))))))]) [0, 7] (by decide) rfl
  have hFc := va_free (wc := [(h0, .inr (10, [.ref h1, .ref h7, .int 0])), (h7, .inl (cO, 0, .inr (.inr (.inr (.inr (fun _ => none))))))]) hD hS hA [0, 7] rfl
  refine va_calli (va_runV (As := [.int a1]) (rest := []) ⟨hx, hb, hml, hown, ha⟩ (c_isFlow l D cI cJ cZ cO _ h0 h1 h7 0 0 (fun _ => none) a1) (cwV 1 ha (gaV kl_X10_33 km_X10_isFlow ks_X10_isFlow kz_X10 kd_X10_isFlow) rfl rfl rfl (by decide +kernel) ⟨Nat.le_of_ble_eq_true rfl, Nat.le_of_ble_eq_true rfl⟩) ⟨pw_blind, va_recv hK hPc (ci := 10) (q0 := 0) rfl rfl, fun U hU hW => ⟨rfl, pw_start hU hW hPc hK hDc hN⟩⟩ rfl rfl hl.1 rfl (lv_room (Nat.le_of_ble_eq_true rfl)) dX10_most_2 ⟨Nat.le_of_ble_eq_true rfl, Nat.le_of_ble_eq_true rfl⟩) hS (fun q _ h => hFc q h) hFc (fun r_1 u t H1 locs ht hvm hw hB hz1 hk1 hS => ?_)
  obtain ⟨hP1, hK1, hD1⟩ := hB
  rw [ht] at hP1
  obtain ⟨hP, hD⟩ := va_join (wr := [(h1, .inr (7, [.int 10, .int 20, .int 20, .int 20, .null, .ref h2, .ref h3, .ref h4, .ref h5, .ref h6, .int 0, .int 0, .int 0, .int 0, .int 0])), (h2, .inr (1, [.null, .null, .int 0])), (h3, .inr (1, [.null, .null, .int 0])), (h4, .inr (1, [.null, .null, .int 0])), (h5, .inr (1, [.null, .null, .int 0])), (h6, .inl (cI, 64, .inl (fun _ => 0)))]) (w1 := [(h0, .inr (10, [.ref h1, .ref h7, .int 0])), (h7, .inl (cO, 0, .inr (.inr (.inr (.inr (fun _ => none))))))]) hP hD [0, 7] [1, 2, 3, 4, 5, 6] rfl rfl (by decide) (by decide) hk1 hFc hP1 hD1
  generalize H1 = H at hP hS ⊢
  have hP : va_P D vwCl [(h1, .inr (7, [.int 10, .int 20, .int 20, .int 20, .null, .ref h2, .ref h3, .ref h4, .ref h5, .ref h6, .int 0, .int 0, .int 0, .int 0, .int 0])), (h2, .inr (1, [.null, .null, .int 0])), (h3, .inr (1, [.null, .null, .int 0])), (h4, .inr (1, [.null, .null, .int 0])), (h5, .inr (1, [.null, .null, .int 0])), (h6, .inl (cI, 64, .inl (fun _ => 0))), (h0, .inr (10, [.ref h1, .ref h7, .int 0])), (h7, .inl (cO, 0, .inr (.inr (.inr (.inr (fun _ => none))))))] H := hP
  have hD : va_D A [(h1, .inr (7, [.int 10, .int 20, .int 20, .int 20, .null, .ref h2, .ref h3, .ref h4, .ref h5, .ref h6, .int 0, .int 0, .int 0, .int 0, .int 0])), (h2, .inr (1, [.null, .null, .int 0])), (h3, .inr (1, [.null, .null, .int 0])), (h4, .inr (1, [.null, .null, .int 0])), (h5, .inr (1, [.null, .null, .int 0])), (h6, .inl (cI, 64, .inl (fun _ => 0))), (h0, .inr (10, [.ref h1, .ref h7, .int 0])), (h7, .inl (cO, 0, .inr (.inr (.inr (.inr (fun _ => none))))))] := hD
  refine W.widen (k := 0) (n := 0) (Nat.le_of_ble_eq_true rfl) (Nat.le_of_ble_eq_true rfl) ?_
  obtain rfl : r_1 = 0 := hw.trans (isf_0 _)
  refine lv_if_eq (tgt := 23) hx hb dX10_most_5 (by decide) (fun c_2 => ?_) (fun c_2 => ?_)
  rotate_left
  · exact absurd (by decide) c_2
  refine lv_iconst (v := 0) hx hb dX10_most_23 (by decide) ?_
  exact W.iret (v := 0) hx hb hr (fun t ht hW => ⟨⟨0, (), rfl, rfl, ⟨pw_P0, va_K.moved hW.alike hK, pw_D0⟩⟩, hS.F ht⟩) hS.2.2 dX10_most_24

set_option maxHeartbeats 4000000 in
set_option maxRecDepth 100000 in
theorem c_flow (l : Launch) (D : va_G) (cI cJ cZ cO : ClassId) (sz : Nat) (h0 h1 h2 h3 h4 h5 h6 h7 : Nat) (k b0 : Int32) (hz : b0 = 0 ∨ b0 = 1) : Met l yX10_flow (wa yX10_flow cX10_flow 6 (some .int)) ({ frames := 5, cells := 13, slots := 64, locals := 105 }) (va_Pc [.ref h0, .int k, .int b0] (pw_s D cI cJ cZ cO sz [(h0, .inr (10, [.ref h1, .ref h7, .int 0])), (h1, .inr (7, [.int 10, .int 20, .int 20, .int 20, .null, .ref h2, .ref h3, .ref h4, .ref h5, .ref h6, .int 0, .int 0, .int 0, .int 0, .int 0])), (h2, .inr (1, [.null, .null, .int 0])), (h3, .inr (1, [.null, .null, .int 0])), (h4, .inr (1, [.null, .null, .int 0])), (h5, .inr (1, [.null, .null, .int 0])), (h6, .inl (cI, 64, .inl (fun _ => 0))), (h7, .inl (cO, 0, .inr (.inr (.inr (.inr (fun _ => none))))))])) (va_Qi (fun (r : Int32) (_ : Unit) => r = fl k) (fun (_ : Unit) (t : State) => pw_t D cI cJ cZ cO (va_A [(h0, .inr (10, [.ref h1, .ref h7, .int 0])), (h1, .inr (7, [.int 10, .int 20, .int 20, .int 20, .null, .ref h2, .ref h3, .ref h4, .ref h5, .ref h6, .int 0, .int 0, .int 0, .int 0, .int 0])), (h2, .inr (1, [.null, .null, .int 0])), (h3, .inr (1, [.null, .null, .int 0])), (h4, .inr (1, [.null, .null, .int 0])), (h5, .inr (1, [.null, .null, .int 0])), (h6, .inl (cI, 64, .inl (fun _ => 0))), (h7, .inl (cO, 0, .inr (.inr (.inr (.inr (fun _ => none))))))] sz) [] t) (va_A [(h0, .inr (10, [.ref h1, .ref h7, .int 0])), (h1, .inr (7, [.int 10, .int 20, .int 20, .int 20, .null, .ref h2, .ref h3, .ref h4, .ref h5, .ref h6, .int 0, .int 0, .int 0, .int 0, .int 0])), (h2, .inr (1, [.null, .null, .int 0])), (h3, .inr (1, [.null, .null, .int 0])), (h4, .inr (1, [.null, .null, .int 0])), (h5, .inr (1, [.null, .null, .int 0])), (h6, .inl (cI, 64, .inl (fun _ => 0))), (h7, .inl (cO, 0, .inr (.inr (.inr (.inr (fun _ => none))))))] sz)) 13 64 (va_A [(h0, .inr (10, [.ref h1, .ref h7, .int 0])), (h1, .inr (7, [.int 10, .int 20, .int 20, .int 20, .null, .ref h2, .ref h3, .ref h4, .ref h5, .ref h6, .int 0, .int 0, .int 0, .int 0, .int 0])), (h2, .inr (1, [.null, .null, .int 0])), (h3, .inr (1, [.null, .null, .int 0])), (h4, .inr (1, [.null, .null, .int 0])), (h5, .inr (1, [.null, .null, .int 0])), (h6, .inl (cI, 64, .inl (fun _ => 0))), (h7, .inl (cO, 0, .inr (.inr (.inr (.inr (fun _ => none))))))] sz) := by
  refine Met.ofW (cc := cX10_flow) (maxL := 6) (ret := (some .int)) (by decide) rfl ?_
  intro p e s m args below meth c s₁ B hml hv
  obtain ⟨rfl, hsz, hP, hK, hD0, hN⟩ := hv
  have hx := B.exec
  have hb := B.bytes
  have hr := B.returns
  have hts := atoms_spec (ws := (wa yX10_flow cX10_flow 6 (some .int))) B.pre
  have ha : ∀ w ∈ wsL_law, w.before _ s = true := fun w h => hts w (List.mem_cons_of_mem _ h)
  have hown : s.vm.findClass RX10 = some m.cls := findClass_of_methodNamed B.named
  have hlocks := B.notSynchronized
  subst hsz
  have hD := hD0.self (sz := s.heap.size)
  generalize hAe : va_A [(h0, .inr (10, [.ref h1, .ref h7, .int 0])), (h1, .inr (7, [.int 10, .int 20, .int 20, .int 20, .null, .ref h2, .ref h3, .ref h4, .ref h5, .ref h6, .int 0, .int 0, .int 0, .int 0, .int 0])), (h2, .inr (1, [.null, .null, .int 0])), (h3, .inr (1, [.null, .null, .int 0])), (h4, .inr (1, [.null, .null, .int 0])), (h5, .inr (1, [.null, .null, .int 0])), (h6, .inl (cI, 64, .inl (fun _ => 0))), (h7, .inl (cO, 0, .inr (.inr (.inr (.inr (fun _ => none))))))] s.heap.size = A at hD ⊢
  have hA : ∀ q : Nat, s.heap.size ≤ q → A q := fun q h => by rw [← hAe]; exact Or.inr h
  have hS : va_S A s.heap s.heap [] := va_S.rf
  have hP : va_P D vwCl [(h0, .inr (10, [.ref h1, .ref h7, .int 0])), (h1, .inr (7, [.int 10, .int 20, .int 20, .int 20, .null, .ref h2, .ref h3, .ref h4, .ref h5, .ref h6, .int 0, .int 0, .int 0, .int 0, .int 0])), (h2, .inr (1, [.null, .null, .int 0])), (h3, .inr (1, [.null, .null, .int 0])), (h4, .inr (1, [.null, .null, .int 0])), (h5, .inr (1, [.null, .null, .int 0])), (h6, .inl (cI, 64, .inl (fun _ => 0))), (h7, .inl (cO, 0, .inr (.inr (.inr (.inr (fun _ => none))))))] s.heap := hP
  have hl := lv_entry ([.ref h0, .int k, .int b0]) (n := 6) (Nat.le_of_ble_eq_true rfl)
  rw [lg_entry_eq]
  generalize (lg_sl ([.ref h0, .int k, .int b0]) ++ List.replicate (6 - (lg_sl ([.ref h0, .int k, .int b0])).length) Slot.unset).toArray = ls at hl ⊢
  have hl : lv_has ls 6 [(0, .ref h0), (1, .int k), (2, .int b0)] := hl
  refine lv_aload_n hx hb dX10_flow_0 rfl (lv_at hl 0 rfl) ?_
  refine va_get (D := D) (ci := 10) (v := .ref h7) (C := RX10) (T := TX10) (N := 3) hx hb ha inlX10 hown hK hP 0 rfl rfl 1 (by decide) (ha _ kf_X10_18) (fun _ h9 => h9) rfl dX10_flow_1 ?_
  refine va_alen hx hb hK hP 7 3 (v := 0) rfl rfl (by decide) dX10_flow_4 ?_
  refine lv_istore_n (lv' := [(3, .int 0), (0, .ref h0), (1, .int k), (2, .int b0)]) hx hb dX10_flow_5 rfl hl (by decide) rfl (fun ls hl => ?_)
  refine lv_iload_n hx hb dX10_flow_6 rfl (lv_at hl 0 rfl) ?_
  refine lv_iconst (v := 4) hx hb dX10_flow_7 (by decide) ?_
  refine lv_icmp_ge (tgt := 20) hx hb dX10_flow_8 (by decide) (fun c_1 => ?_) (fun c_1 => ?_)
  · exact absurd c_1 (by decide)
  refine lv_iload_n hx hb dX10_flow_11 rfl (lv_at hl 2 rfl) ?_
  refine lv_iconst (v := 0) hx hb dX10_flow_12 (by decide) ?_
  refine lv_iconst (v := 3) hx hb dX10_flow_13 (by decide) ?_
  have hPc := hP.sub (ws' := []) [] rfl
  have hDc := hD.sub (ws' := []) [] (by decide) rfl
  have hFc := va_free (wc := []) hD hS hA [] rfl
  refine va_calli (va_runS (As := [.int k, .int 0, .int 3]) (rest := []) ⟨hx, hb, hml, hown, ha⟩ (c_within l D cI cJ cZ cO _ k 0 3) (va_cwS 3 ha (gaS kl_X10_22 kt_X10_within kz_X10 kd_X10_within) rfl rfl rfl (by decide +kernel) ⟨Nat.le_of_ble_eq_true rfl, Nat.le_of_ble_eq_true rfl⟩) ⟨pw_blind, fun U hU hW => ⟨rfl, pw_start hU hW hPc hK hDc hN⟩⟩ rfl rfl hl.1 rfl (lv_room (Nat.le_of_ble_eq_true rfl)) dX10_flow_14 ⟨Nat.le_of_ble_eq_true rfl, Nat.le_of_ble_eq_true rfl⟩) hS (fun q _ h => hFc q h) hFc (fun r_2 u t H1 locs ht hvm hw hB hz1 hk1 hS => ?_)
  obtain ⟨hP1, hK1, hD1⟩ := hB
  rw [ht] at hP1
  obtain ⟨hP, hD⟩ := va_join (wr := [(h0, .inr (10, [.ref h1, .ref h7, .int 0])), (h1, .inr (7, [.int 10, .int 20, .int 20, .int 20, .null, .ref h2, .ref h3, .ref h4, .ref h5, .ref h6, .int 0, .int 0, .int 0, .int 0, .int 0])), (h2, .inr (1, [.null, .null, .int 0])), (h3, .inr (1, [.null, .null, .int 0])), (h4, .inr (1, [.null, .null, .int 0])), (h5, .inr (1, [.null, .null, .int 0])), (h6, .inl (cI, 64, .inl (fun _ => 0))), (h7, .inl (cO, 0, .inr (.inr (.inr (.inr (fun _ => none))))))]) (w1 := []) hP hD [] [0, 1, 2, 3, 4, 5, 6, 7] rfl rfl (by decide) (by decide) hk1 hFc hP1 hD1
  generalize H1 = H at hP hS ⊢
  have hP : va_P D vwCl [(h0, .inr (10, [.ref h1, .ref h7, .int 0])), (h1, .inr (7, [.int 10, .int 20, .int 20, .int 20, .null, .ref h2, .ref h3, .ref h4, .ref h5, .ref h6, .int 0, .int 0, .int 0, .int 0, .int 0])), (h2, .inr (1, [.null, .null, .int 0])), (h3, .inr (1, [.null, .null, .int 0])), (h4, .inr (1, [.null, .null, .int 0])), (h5, .inr (1, [.null, .null, .int 0])), (h6, .inl (cI, 64, .inl (fun _ => 0))), (h7, .inl (cO, 0, .inr (.inr (.inr (.inr (fun _ => none))))))] H := hP
  have hD : va_D A [(h0, .inr (10, [.ref h1, .ref h7, .int 0])), (h1, .inr (7, [.int 10, .int 20, .int 20, .int 20, .null, .ref h2, .ref h3, .ref h4, .ref h5, .ref h6, .int 0, .int 0, .int 0, .int 0, .int 0])), (h2, .inr (1, [.null, .null, .int 0])), (h3, .inr (1, [.null, .null, .int 0])), (h4, .inr (1, [.null, .null, .int 0])), (h5, .inr (1, [.null, .null, .int 0])), (h6, .inl (cI, 64, .inl (fun _ => 0))), (h7, .inl (cO, 0, .inr (.inr (.inr (.inr (fun _ => none))))))] := hD
  refine W.widen (k := 0) (n := 0) (Nat.le_of_ble_eq_true rfl) (Nat.le_of_ble_eq_true rfl) ?_
  have hr_2 := hw
  subst hr_2
  refine lv_if_ne (tgt := 22) hx hb dX10_flow_17 (by decide) (fun c_3 => ?_) (fun c_3 => ?_)
  · refine lv_iload_n hx hb dX10_flow_22 rfl (lv_at hl 0 rfl) ?_
    refine lv_iconst (v := 1) hx hb dX10_flow_23 (by decide) ?_
    refine lv_iadd hx hb dX10_flow_24 ?_
    refine lv_topi (fun v_4 ev_4 => ?_)
    obtain rfl : v_4 = 1 := ev_4.trans (by decide)
    refine va_newq (N' := 1) (C := RX3) hx hb hown (ha _ kc_X10_16) hN.o hK hP hD hS hA (by decide) (by decide +kernel) (Nat.le_of_ble_eq_true rfl) (Nat.le_of_ble_eq_true rfl) (Nat.le_of_ble_eq_true rfl) dX10_flow_25 (fun q_5 cA H hK1 hP hD hS => ?_)
    obtain rfl := pw_uq hK1 (i := 3) (j := 4) rfl rfl
    have hP : va_P D vwCl [(h0, .inr (10, [.ref h1, .ref h7, .int 0])), (h1, .inr (7, [.int 10, .int 20, .int 20, .int 20, .null, .ref h2, .ref h3, .ref h4, .ref h5, .ref h6, .int 0, .int 0, .int 0, .int 0, .int 0])), (h2, .inr (1, [.null, .null, .int 0])), (h3, .inr (1, [.null, .null, .int 0])), (h4, .inr (1, [.null, .null, .int 0])), (h5, .inr (1, [.null, .null, .int 0])), (h6, .inl (cI, 64, .inl (fun _ => 0))), (h7, .inl (cO, 0, .inr (.inr (.inr (.inr (fun _ => none)))))), (q_5, .inl (cO, 1, .inr (.inr (.inr (.inr (fun _ => none))))))] H := hP
    have hD : va_D A [(h0, .inr (10, [.ref h1, .ref h7, .int 0])), (h1, .inr (7, [.int 10, .int 20, .int 20, .int 20, .null, .ref h2, .ref h3, .ref h4, .ref h5, .ref h6, .int 0, .int 0, .int 0, .int 0, .int 0])), (h2, .inr (1, [.null, .null, .int 0])), (h3, .inr (1, [.null, .null, .int 0])), (h4, .inr (1, [.null, .null, .int 0])), (h5, .inr (1, [.null, .null, .int 0])), (h6, .inl (cI, 64, .inl (fun _ => 0))), (h7, .inl (cO, 0, .inr (.inr (.inr (.inr (fun _ => none)))))), (q_5, .inl (cO, 1, .inr (.inr (.inr (.inr (fun _ => none))))))] := hD
    refine W.widen (k := 1) (n := 1) (Nat.le_of_ble_eq_true rfl) (Nat.le_of_ble_eq_true rfl) ?_
    refine lv_astore (lv' := [(4, .ref q_5), (3, .int 0), (0, .ref h0), (1, .int k), (2, .int b0)]) hx hb dX10_flow_28 hl (by decide) rfl (fun ls hl => ?_)
    refine lv_iconst (v := 0) hx hb dX10_flow_30 (by decide) ?_
    refine lv_istore (lv' := [(5, .int 0), (4, .ref q_5), (3, .int 0), (0, .ref h0), (1, .int k), (2, .int b0)]) hx hb dX10_flow_31 hl (by decide) rfl (fun ls hl => ?_)
    refine lv_iload hx hb dX10_flow_33 (lv_at hl 0 rfl) ?_
    refine lv_iload_n hx hb dX10_flow_35 rfl (lv_at hl 2 rfl) ?_
    refine lv_icmp_ge (tgt := 57) hx hb dX10_flow_36 (by decide) (fun c_6 => ?_) (fun c_6 => ?_)
    rotate_left
    · exact absurd (by decide) c_6
    refine lv_aload hx hb dX10_flow_57 (lv_at hl 1 rfl) ?_
    refine lv_iload_n hx hb dX10_flow_59 rfl (lv_at hl 2 rfl) ?_
    refine va_new (ci := 3) (fs := [.null, .null]) (C := RX3) (T := TX3) (N := 2) hx hb ha inlX3 tyX3 tyX3_ok hown (ha _ kc_X10_16) (ha _ ki_X3) (ha _ kz_X3) hK hP hD hS hA rfl (by decide) (Nat.le_of_ble_eq_true rfl) (Nat.le_of_ble_eq_true rfl) dX10_flow_60 (fun q_7 H hP hD hS => ?_)
    have hP : va_P D vwCl [(h0, .inr (10, [.ref h1, .ref h7, .int 0])), (h1, .inr (7, [.int 10, .int 20, .int 20, .int 20, .null, .ref h2, .ref h3, .ref h4, .ref h5, .ref h6, .int 0, .int 0, .int 0, .int 0, .int 0])), (h2, .inr (1, [.null, .null, .int 0])), (h3, .inr (1, [.null, .null, .int 0])), (h4, .inr (1, [.null, .null, .int 0])), (h5, .inr (1, [.null, .null, .int 0])), (h6, .inl (cI, 64, .inl (fun _ => 0))), (h7, .inl (cO, 0, .inr (.inr (.inr (.inr (fun _ => none)))))), (q_5, .inl (cO, 1, .inr (.inr (.inr (.inr (fun _ => none)))))), (q_7, .inr (3, [.null, .null]))] H := hP
    have hD : va_D A [(h0, .inr (10, [.ref h1, .ref h7, .int 0])), (h1, .inr (7, [.int 10, .int 20, .int 20, .int 20, .null, .ref h2, .ref h3, .ref h4, .ref h5, .ref h6, .int 0, .int 0, .int 0, .int 0, .int 0])), (h2, .inr (1, [.null, .null, .int 0])), (h3, .inr (1, [.null, .null, .int 0])), (h4, .inr (1, [.null, .null, .int 0])), (h5, .inr (1, [.null, .null, .int 0])), (h6, .inl (cI, 64, .inl (fun _ => 0))), (h7, .inl (cO, 0, .inr (.inr (.inr (.inr (fun _ => none)))))), (q_5, .inl (cO, 1, .inr (.inr (.inr (.inr (fun _ => none)))))), (q_7, .inr (3, [.null, .null]))] := hD
    refine W.widen (k := 2) (n := 3) (Nat.le_of_ble_eq_true rfl) (Nat.le_of_ble_eq_true rfl) ?_
    refine lv_dup hx hb dX10_flow_63 rfl ?_
    refine lv_iload_n hx hb dX10_flow_64 rfl (lv_at hl 2 rfl) ?_
    refine lv_iload_n hx hb dX10_flow_65 rfl (lv_at hl 4 rfl) ?_
    refine lv_iload_n hx hb dX10_flow_66 rfl (lv_at hl 5 rfl) ?_
    have hPc := hP.sub (ws' := [(q_7, .inr (3, [.null, .null]))]) [9] rfl
    have hDc := hD.sub (ws' := [(q_7, .inr (3, [.null, .null]))]) [9] (by decide) rfl
    have hFc := va_free (wc := [(q_7, .inr (3, [.null, .null]))]) hD hS hA [9] rfl
    refine va_callv (va_runI (As := [.int 0, .int k, .int b0]) (rest := [.ref q_7, .int 0, .ref q_5]) ⟨hx, hb, hml, hown, ha⟩ (c_Flow l D cI cJ cZ cO _ q_7 0 k b0 hz) (cwI 3 ha (gaI kd_X3_init) rfl rfl rfl (ha _ kz_X3) (ha _ kl_X10_30) (ha _ km_X3_init) rfl (by decide +kernel) ⟨Nat.le_of_ble_eq_true rfl, Nat.le_of_ble_eq_true rfl⟩) ⟨pw_blind, fun U hU hW => ⟨rfl, pw_start hU hW hPc hK hDc hN⟩⟩ rfl rfl hl.1 rfl (lv_room (Nat.le_of_ble_eq_true rfl)) dX10_flow_67 ⟨Nat.le_of_ble_eq_true rfl, Nat.le_of_ble_eq_true rfl⟩) hS (fun q _ h => hFc q h) hFc (fun u t H1 locs ht hvm hw hB hz1 hk1 hS => ?_)
    obtain ⟨q_9, q_10, hP1, hK1, hD1⟩ := hB
    rw [ht] at hP1
    obtain ⟨hP, hD⟩ := va_join (wr := [(h0, .inr (10, [.ref h1, .ref h7, .int 0])), (h1, .inr (7, [.int 10, .int 20, .int 20, .int 20, .null, .ref h2, .ref h3, .ref h4, .ref h5, .ref h6, .int 0, .int 0, .int 0, .int 0, .int 0])), (h2, .inr (1, [.null, .null, .int 0])), (h3, .inr (1, [.null, .null, .int 0])), (h4, .inr (1, [.null, .null, .int 0])), (h5, .inr (1, [.null, .null, .int 0])), (h6, .inl (cI, 64, .inl (fun _ => 0))), (h7, .inl (cO, 0, .inr (.inr (.inr (.inr (fun _ => none)))))), (q_5, .inl (cO, 1, .inr (.inr (.inr (.inr (fun _ => none))))))]) (w1 := [(q_7, .inr (3, [.ref q_9, .ref q_10]))]) hP hD [9] [0, 1, 2, 3, 4, 5, 6, 7, 8] rfl rfl (by decide) (by decide) hk1 hFc hP1 hD1
    generalize H1 = H at hP hS ⊢
    have hP : va_P D vwCl [(h0, .inr (10, [.ref h1, .ref h7, .int 0])), (h1, .inr (7, [.int 10, .int 20, .int 20, .int 20, .null, .ref h2, .ref h3, .ref h4, .ref h5, .ref h6, .int 0, .int 0, .int 0, .int 0, .int 0])), (h2, .inr (1, [.null, .null, .int 0])), (h3, .inr (1, [.null, .null, .int 0])), (h4, .inr (1, [.null, .null, .int 0])), (h5, .inr (1, [.null, .null, .int 0])), (h6, .inl (cI, 64, .inl (fun _ => 0))), (h7, .inl (cO, 0, .inr (.inr (.inr (.inr (fun _ => none)))))), (q_5, .inl (cO, 1, .inr (.inr (.inr (.inr (fun _ => none)))))), (q_7, .inr (3, [.ref q_9, .ref q_10]))] H := hP
    have hD : va_D A [(h0, .inr (10, [.ref h1, .ref h7, .int 0])), (h1, .inr (7, [.int 10, .int 20, .int 20, .int 20, .null, .ref h2, .ref h3, .ref h4, .ref h5, .ref h6, .int 0, .int 0, .int 0, .int 0, .int 0])), (h2, .inr (1, [.null, .null, .int 0])), (h3, .inr (1, [.null, .null, .int 0])), (h4, .inr (1, [.null, .null, .int 0])), (h5, .inr (1, [.null, .null, .int 0])), (h6, .inl (cI, 64, .inl (fun _ => 0))), (h7, .inl (cO, 0, .inr (.inr (.inr (.inr (fun _ => none)))))), (q_5, .inl (cO, 1, .inr (.inr (.inr (.inr (fun _ => none)))))), (q_7, .inr (3, [.ref q_9, .ref q_10]))] := hD
    refine W.widen (k := 13) (n := 64) (Nat.le_of_ble_eq_true rfl) (Nat.le_of_ble_eq_true rfl) ?_
    refine va_astq hx hb hK hP hD hS 8 3 9 3 rfl rfl rfl rfl (by unfold vp_in; decide) dX10_flow_70 (fun H locs hP hD hS => ?_)
    have hP : va_P D vwCl [(h0, .inr (10, [.ref h1, .ref h7, .int 0])), (h1, .inr (7, [.int 10, .int 20, .int 20, .int 20, .null, .ref h2, .ref h3, .ref h4, .ref h5, .ref h6, .int 0, .int 0, .int 0, .int 0, .int 0])), (h2, .inr (1, [.null, .null, .int 0])), (h3, .inr (1, [.null, .null, .int 0])), (h4, .inr (1, [.null, .null, .int 0])), (h5, .inr (1, [.null, .null, .int 0])), (h6, .inl (cI, 64, .inl (fun _ => 0))), (h7, .inl (cO, 0, .inr (.inr (.inr (.inr (fun _ => none)))))), (q_5, .inl (cO, 1, .inr (.inr (.inr (.inr (va_up (fun _ => none) ((0 : Int32).toNatClampNeg) (some q_7))))))), (q_7, .inr (3, [.ref q_9, .ref q_10]))] H := hP
    have hD : va_D A [(h0, .inr (10, [.ref h1, .ref h7, .int 0])), (h1, .inr (7, [.int 10, .int 20, .int 20, .int 20, .null, .ref h2, .ref h3, .ref h4, .ref h5, .ref h6, .int 0, .int 0, .int 0, .int 0, .int 0])), (h2, .inr (1, [.null, .null, .int 0])), (h3, .inr (1, [.null, .null, .int 0])), (h4, .inr (1, [.null, .null, .int 0])), (h5, .inr (1, [.null, .null, .int 0])), (h6, .inl (cI, 64, .inl (fun _ => 0))), (h7, .inl (cO, 0, .inr (.inr (.inr (.inr (fun _ => none)))))), (q_5, .inl (cO, 1, .inr (.inr (.inr (.inr (va_up (fun _ => none) ((0 : Int32).toNatClampNeg) (some q_7))))))), (q_7, .inr (3, [.ref q_9, .ref q_10]))] := hD
    refine lv_aload_n hx hb dX10_flow_71 rfl (lv_at hl 3 rfl) ?_
    refine lv_aload hx hb dX10_flow_72 (lv_at hl 1 rfl) ?_
    refine va_put (D := D) (ci := 10) (v := .ref q_5) (ty := .array (.object "CongestionBench$Flow")) (C := RX10) (T := TX10) (N := 3) hx hb ha inlX10 tyX10 tyX10_ok nmX10 hown hK hP hD hS 0 rfl rfl 1 (by decide) (ha _ kf_X10_18) (fun _ h9 => h9) rfl (by decide +kernel) rfl rfl (Nat.le_of_ble_eq_true rfl) dX10_flow_74 (fun H locs hP hD hS => ?_)
    have hP : va_P D vwCl [(h0, .inr (10, [.ref h1, .ref q_5, .int 0])), (h1, .inr (7, [.int 10, .int 20, .int 20, .int 20, .null, .ref h2, .ref h3, .ref h4, .ref h5, .ref h6, .int 0, .int 0, .int 0, .int 0, .int 0])), (h2, .inr (1, [.null, .null, .int 0])), (h3, .inr (1, [.null, .null, .int 0])), (h4, .inr (1, [.null, .null, .int 0])), (h5, .inr (1, [.null, .null, .int 0])), (h6, .inl (cI, 64, .inl (fun _ => 0))), (h7, .inl (cO, 0, .inr (.inr (.inr (.inr (fun _ => none)))))), (q_5, .inl (cO, 1, .inr (.inr (.inr (.inr (va_up (fun _ => none) ((0 : Int32).toNatClampNeg) (some q_7))))))), (q_7, .inr (3, [.ref q_9, .ref q_10]))] H := hP
    have hD : va_D A [(h0, .inr (10, [.ref h1, .ref q_5, .int 0])), (h1, .inr (7, [.int 10, .int 20, .int 20, .int 20, .null, .ref h2, .ref h3, .ref h4, .ref h5, .ref h6, .int 0, .int 0, .int 0, .int 0, .int 0])), (h2, .inr (1, [.null, .null, .int 0])), (h3, .inr (1, [.null, .null, .int 0])), (h4, .inr (1, [.null, .null, .int 0])), (h5, .inr (1, [.null, .null, .int 0])), (h6, .inl (cI, 64, .inl (fun _ => 0))), (h7, .inl (cO, 0, .inr (.inr (.inr (.inr (fun _ => none)))))), (q_5, .inl (cO, 1, .inr (.inr (.inr (.inr (va_up (fun _ => none) ((0 : Int32).toNatClampNeg) (some q_7))))))), (q_7, .inr (3, [.ref q_9, .ref q_10]))] := hD
    refine lv_iload_n hx hb dX10_flow_77 rfl (lv_at hl 2 rfl) ?_
    exact W.iret (v := 0) hx hb hr (fun t ht hW => ⟨⟨0, (), rfl, by simp [fl, c_3], ⟨pw_P0, va_K.moved hW.alike hK, pw_D0⟩⟩, hS.F ht⟩) hS.2.2 dX10_flow_78
  · refine lv_iconst (v := (-1)) hx hb dX10_flow_20 (by decide) ?_
    refine W.widen (k := 13) (n := 64) (Nat.le_of_ble_eq_true rfl) (Nat.le_of_ble_eq_true rfl) ?_
    exact W.iret (v := (-1)) hx hb hr (fun t ht hW => ⟨⟨(-1), (), rfl, by simp [fl, c_3], ⟨pw_P0, va_K.moved hW.alike hK, pw_D0⟩⟩, hS.F ht⟩) hS.2.2 dX10_flow_21

set_option maxHeartbeats 4000000 in
set_option maxRecDepth 100000 in
theorem c_placeOfTold (l : Launch) (D : va_G) (cI cJ cZ cO : ClassId) (sz : Nat) (h0 h1 h2 h3 h4 h5 : Nat) (n : Int32) : Met l yX7_placeOfTold (wa yX7_placeOfTold cX7_placeOfTold 3 (some .int)) ({ frames := 0, cells := 0, slots := 0, locals := 0 }) (va_Pc [.ref h0, .int n] (pw_s D cI cJ cZ cO sz [(h0, .inr (7, [.int 10, .int 20, .int 20, .int 20, .null, .ref h1, .ref h2, .ref h3, .ref h4, .ref h5, .int 0, .int 0, .int 0, .int 0, .int 0])), (h5, .inl (cI, 64, .inl (fun _ => 0)))])) (va_Qi (fun (r : Int32) (_ : Unit) => r = -1) (fun (_ : Unit) (t : State) => pw_t D cI cJ cZ cO (va_A [(h0, .inr (7, [.int 10, .int 20, .int 20, .int 20, .null, .ref h1, .ref h2, .ref h3, .ref h4, .ref h5, .int 0, .int 0, .int 0, .int 0, .int 0])), (h5, .inl (cI, 64, .inl (fun _ => 0)))] sz) [(h0, .inr (7, [.int 10, .int 20, .int 20, .int 20, .null, .ref h1, .ref h2, .ref h3, .ref h4, .ref h5, .int 0, .int 0, .int 0, .int 0, .int 0])), (h5, .inl (cI, 64, .inl (fun _ => 0)))] t) (va_A [(h0, .inr (7, [.int 10, .int 20, .int 20, .int 20, .null, .ref h1, .ref h2, .ref h3, .ref h4, .ref h5, .int 0, .int 0, .int 0, .int 0, .int 0])), (h5, .inl (cI, 64, .inl (fun _ => 0)))] sz)) 0 0 (va_A [(h0, .inr (7, [.int 10, .int 20, .int 20, .int 20, .null, .ref h1, .ref h2, .ref h3, .ref h4, .ref h5, .int 0, .int 0, .int 0, .int 0, .int 0])), (h5, .inl (cI, 64, .inl (fun _ => 0)))] sz) := by
  refine Met.ofW (cc := cX7_placeOfTold) (maxL := 3) (ret := (some .int)) (by decide) rfl ?_
  intro p e s m args below meth c s₁ B hml hv
  obtain ⟨rfl, hsz, hP, hK, hD0, hN⟩ := hv
  have hx := B.exec
  have hb := B.bytes
  have hr := B.returns
  have hts := atoms_spec (ws := (wa yX7_placeOfTold cX7_placeOfTold 3 (some .int))) B.pre
  have ha : ∀ w ∈ wsL_law, w.before _ s = true := fun w h => hts w (List.mem_cons_of_mem _ h)
  have hown : s.vm.findClass RX7 = some m.cls := findClass_of_methodNamed B.named
  have hlocks := B.notSynchronized
  subst hsz
  have hD := hD0.self (sz := s.heap.size)
  generalize hAe : va_A [(h0, .inr (7, [.int 10, .int 20, .int 20, .int 20, .null, .ref h1, .ref h2, .ref h3, .ref h4, .ref h5, .int 0, .int 0, .int 0, .int 0, .int 0])), (h5, .inl (cI, 64, .inl (fun _ => 0)))] s.heap.size = A at hD ⊢
  have hA : ∀ q : Nat, s.heap.size ≤ q → A q := fun q h => by rw [← hAe]; exact Or.inr h
  have hS : va_S A s.heap s.heap [] := va_S.rf
  have hP : va_P D vwCl [(h0, .inr (7, [.int 10, .int 20, .int 20, .int 20, .null, .ref h1, .ref h2, .ref h3, .ref h4, .ref h5, .int 0, .int 0, .int 0, .int 0, .int 0])), (h5, .inl (cI, 64, .inl (fun _ => 0)))] s.heap := hP
  have hl := lv_entry ([.ref h0, .int n]) (n := 3) (Nat.le_of_ble_eq_true rfl)
  rw [lg_entry_eq]
  generalize (lg_sl ([.ref h0, .int n]) ++ List.replicate (3 - (lg_sl ([.ref h0, .int n])).length) Slot.unset).toArray = ls at hl ⊢
  have hl : lv_has ls 3 [(0, .ref h0), (1, .int n)] := hl
  refine lv_iconst (v := 0) hx hb dX7_placeOfTold_0 (by decide) ?_
  refine lv_istore_n (lv' := [(2, .int 0), (0, .ref h0), (1, .int n)]) hx hb dX7_placeOfTold_1 rfl hl (by decide) rfl (fun ls hl => ?_)
  refine lv_iload_n hx hb dX7_placeOfTold_2 rfl (lv_at hl 0 rfl) ?_
  refine lv_aload_n hx hb dX7_placeOfTold_3 rfl (lv_at hl 1 rfl) ?_
  refine va_get (D := D) (ci := 7) (v := .int 0) (C := RX7) (T := TX7) (N := 15) hx hb ha inlX7 hown hK hP 0 rfl rfl 10 (by decide) (ha _ kf_X7_47) (fun _ h9 => h9) rfl dX7_placeOfTold_4 ?_
  refine lv_icmp_ge (tgt := 37) hx hb dX7_placeOfTold_7 (by decide) (fun c_1 => ?_) (fun c_1 => ?_)
  rotate_left
  · exact absurd (by decide) c_1
  refine lv_iconst (v := (-1)) hx hb dX7_placeOfTold_37 (by decide) ?_
  have hP9 := hP.sub (ws' := [(h0, .inr (7, [.int 10, .int 20, .int 20, .int 20, .null, .ref h1, .ref h2, .ref h3, .ref h4, .ref h5, .int 0, .int 0, .int 0, .int 0, .int 0])), (h5, .inl (cI, 64, .inl (fun _ => 0)))]) [0, 1] rfl
  have hD9 := hD.sub (ws' := [(h0, .inr (7, [.int 10, .int 20, .int 20, .int 20, .null, .ref h1, .ref h2, .ref h3, .ref h4, .ref h5, .int 0, .int 0, .int 0, .int 0, .int 0])), (h5, .inl (cI, 64, .inl (fun _ => 0)))]) [0, 1] (by decide) rfl
  exact W.iret (v := (-1)) hx hb hr (fun t ht hW => ⟨⟨(-1), (), rfl, rfl, ⟨by rw [ht]; exact hP9, va_K.moved hW.alike hK, hD9⟩⟩, hS.F ht⟩) hS.2.2 dX7_placeOfTold_38

set_option maxHeartbeats 4000000 in
set_option maxRecDepth 100000 in
theorem c_tellLost (l : Launch) (D : va_G) (cI cJ cZ cO : ClassId) (sz : Nat) (h0 h1 h2 h3 h4 h5 : Nat) (n : Int32) : Met l yX7_tellLost (wa yX7_tellLost cX7_tellLost 2 (some .boolean)) ({ frames := 1, cells := 0, slots := 0, locals := 22 }) (va_Pc [.ref h0, .int n] (pw_s D cI cJ cZ cO sz [(h0, .inr (7, [.int 10, .int 20, .int 20, .int 20, .null, .ref h1, .ref h2, .ref h3, .ref h4, .ref h5, .int 0, .int 0, .int 0, .int 0, .int 0])), (h5, .inl (cI, 64, .inl (fun _ => 0)))])) (va_Qi (fun (r : Int32) (_ : Unit) => r = ls0 n) (fun (_ : Unit) (t : State) => pw_t D cI cJ cZ cO (va_A [(h0, .inr (7, [.int 10, .int 20, .int 20, .int 20, .null, .ref h1, .ref h2, .ref h3, .ref h4, .ref h5, .int 0, .int 0, .int 0, .int 0, .int 0])), (h5, .inl (cI, 64, .inl (fun _ => 0)))] sz) [] t) (va_A [(h0, .inr (7, [.int 10, .int 20, .int 20, .int 20, .null, .ref h1, .ref h2, .ref h3, .ref h4, .ref h5, .int 0, .int 0, .int 0, .int 0, .int 0])), (h5, .inl (cI, 64, .inl (fun _ => 0)))] sz)) 0 0 (va_A [(h0, .inr (7, [.int 10, .int 20, .int 20, .int 20, .null, .ref h1, .ref h2, .ref h3, .ref h4, .ref h5, .int 0, .int 0, .int 0, .int 0, .int 0])), (h5, .inl (cI, 64, .inl (fun _ => 0)))] sz) := by
  refine Met.ofW (cc := cX7_tellLost) (maxL := 2) (ret := (some .boolean)) (by decide) rfl ?_
  intro p e s m args below meth c s₁ B hml hv
  obtain ⟨rfl, hsz, hP, hK, hD0, hN⟩ := hv
  have hx := B.exec
  have hb := B.bytes
  have hr := B.returns
  have hts := atoms_spec (ws := (wa yX7_tellLost cX7_tellLost 2 (some .boolean))) B.pre
  have ha : ∀ w ∈ wsL_law, w.before _ s = true := fun w h => hts w (List.mem_cons_of_mem _ h)
  have hown : s.vm.findClass RX7 = some m.cls := findClass_of_methodNamed B.named
  have hlocks := B.notSynchronized
  subst hsz
  have hD := hD0.self (sz := s.heap.size)
  generalize hAe : va_A [(h0, .inr (7, [.int 10, .int 20, .int 20, .int 20, .null, .ref h1, .ref h2, .ref h3, .ref h4, .ref h5, .int 0, .int 0, .int 0, .int 0, .int 0])), (h5, .inl (cI, 64, .inl (fun _ => 0)))] s.heap.size = A at hD ⊢
  have hA : ∀ q : Nat, s.heap.size ≤ q → A q := fun q h => by rw [← hAe]; exact Or.inr h
  have hS : va_S A s.heap s.heap [] := va_S.rf
  have hP : va_P D vwCl [(h0, .inr (7, [.int 10, .int 20, .int 20, .int 20, .null, .ref h1, .ref h2, .ref h3, .ref h4, .ref h5, .int 0, .int 0, .int 0, .int 0, .int 0])), (h5, .inl (cI, 64, .inl (fun _ => 0)))] s.heap := hP
  have hl := lv_entry ([.ref h0, .int n]) (n := 2) (Nat.le_of_ble_eq_true rfl)
  rw [lg_entry_eq]
  generalize (lg_sl ([.ref h0, .int n]) ++ List.replicate (2 - (lg_sl ([.ref h0, .int n])).length) Slot.unset).toArray = ls at hl ⊢
  have hl : lv_has ls 2 [(0, .ref h0), (1, .int n)] := hl
  refine lv_iload_n hx hb dX7_tellLost_0 rfl (lv_at hl 1 rfl) ?_
  refine lv_aload_n hx hb dX7_tellLost_1 rfl (lv_at hl 0 rfl) ?_
  refine va_get (D := D) (ci := 7) (v := .int 0) (C := RX7) (T := TX7) (N := 15) hx hb ha inlX7 hown hK hP 0 rfl rfl 11 (by decide) (ha _ kf_X7_44) (fun _ h9 => h9) rfl dX7_tellLost_2 ?_
  refine lv_icmp_lt (tgt := 17) hx hb dX7_tellLost_5 (by decide) (fun c_1 => ?_) (fun c_1 => ?_)
  · refine lv_iconst (v := 0) hx hb dX7_tellLost_17 (by decide) ?_
    exact W.zret (v := 0) hx hb hr rfl (fun t ht hW => ⟨⟨0, (), rfl, by simp [ls0, c_1], ⟨pw_P0, va_K.moved hW.alike hK, pw_D0⟩⟩, hS.F ht⟩) hS.2.2 dX7_tellLost_18
  · refine lv_aload_n hx hb dX7_tellLost_8 rfl (lv_at hl 0 rfl) ?_
    refine va_get (D := D) (ci := 7) (v := .int 0) (C := RX7) (T := TX7) (N := 15) hx hb ha inlX7 hown hK hP 0 rfl rfl 10 (by decide) (ha _ kf_X7_47) (fun _ h9 => h9) rfl dX7_tellLost_9 ?_
    refine lv_bipush (v := 64) hx hb dX7_tellLost_12 (by decide) ?_
    refine lv_icmp_lt (tgt := 19) hx hb dX7_tellLost_14 (by decide) (fun c_2 => ?_) (fun c_2 => ?_)
    rotate_left
    · exact absurd (by decide) c_2
    refine lv_aload_n hx hb dX7_tellLost_19 rfl (lv_at hl 0 rfl) ?_
    refine lv_iload_n hx hb dX7_tellLost_20 rfl (lv_at hl 1 rfl) ?_
    have hPc := hP.sub (ws' := [(h0, .inr (7, [.int 10, .int 20, .int 20, .int 20, .null, .ref h1, .ref h2, .ref h3, .ref h4, .ref h5, .int 0, .int 0, .int 0, .int 0, .int 0])), (h5, .inl (cI, 64, .inl (fun _ => 0)))]) [0, 1] rfl
    have hDc := hD.sub (ws' := [(h0, .inr (7, [.int 10, .int 20, .int 20, .int 20, .null, .ref h1, .ref h2, .ref h3, .ref h4, .ref h5, .int 0, .int 0, .int 0, .int 0, .int 0])), (h5, .inl (cI, 64, .inl (fun _ => 0)))]) [0, 1] (by decide) rfl
    have hFc := va_free (wc := [(h0, .inr (7, [.int 10, .int 20, .int 20, .int 20, .null, .ref h1, .ref h2, .ref h3, .ref h4, .ref h5, .int 0, .int 0, .int 0, .int 0, .int 0])), (h5, .inl (cI, 64, .inl (fun _ => 0)))]) hD hS hA [0, 1] rfl
    refine va_calli (va_runV (As := [.int n]) (rest := []) ⟨hx, hb, hml, hown, ha⟩ (c_placeOfTold l D cI cJ cZ cO _ h0 h1 h2 h3 h4 h5 n) (cwV 1 ha (gaV kl_X7_50 km_X7_placeOfTold ks_X7_placeOfTold kz_X7 kd_X7_placeOfTold) rfl rfl rfl (by decide +kernel) ⟨Nat.le_of_ble_eq_true rfl, Nat.le_of_ble_eq_true rfl⟩) ⟨pw_blind, va_recv hK hPc (ci := 7) (q0 := 0) rfl rfl, fun U hU hW => ⟨rfl, pw_start hU hW hPc hK hDc hN⟩⟩ rfl rfl hl.1 rfl (lv_room (Nat.le_of_ble_eq_true rfl)) dX7_tellLost_21 ⟨Nat.le_of_ble_eq_true rfl, Nat.le_of_ble_eq_true rfl⟩) hS (fun q _ h => hFc q h) hFc (fun r_3 u t H1 locs ht hvm hw hB hz1 hk1 hS => ?_)
    obtain ⟨hP1, hK1, hD1⟩ := hB
    rw [ht] at hP1
    obtain ⟨hP, hD⟩ := va_join (wr := []) (w1 := [(h0, .inr (7, [.int 10, .int 20, .int 20, .int 20, .null, .ref h1, .ref h2, .ref h3, .ref h4, .ref h5, .int 0, .int 0, .int 0, .int 0, .int 0])), (h5, .inl (cI, 64, .inl (fun _ => 0)))]) hP hD [0, 1] [] rfl rfl (by decide) (by decide) hk1 hFc hP1 hD1
    generalize H1 = H at hP hS ⊢
    have hP : va_P D vwCl [(h0, .inr (7, [.int 10, .int 20, .int 20, .int 20, .null, .ref h1, .ref h2, .ref h3, .ref h4, .ref h5, .int 0, .int 0, .int 0, .int 0, .int 0])), (h5, .inl (cI, 64, .inl (fun _ => 0)))] H := hP
    have hD : va_D A [(h0, .inr (7, [.int 10, .int 20, .int 20, .int 20, .null, .ref h1, .ref h2, .ref h3, .ref h4, .ref h5, .int 0, .int 0, .int 0, .int 0, .int 0])), (h5, .inl (cI, 64, .inl (fun _ => 0)))] := hD
    refine W.widen (k := 0) (n := 0) (Nat.le_of_ble_eq_true rfl) (Nat.le_of_ble_eq_true rfl) ?_
    obtain rfl : r_3 = (-1) := hw
    refine lv_iconst (v := (-1)) hx hb dX7_tellLost_24 (by decide) ?_
    refine lv_icmp_ne (tgt := 48) hx hb dX7_tellLost_25 (by decide) (fun c_4 => ?_) (fun c_4 => ?_)
    · exact absurd (by decide) c_4
    refine lv_aload_n hx hb dX7_tellLost_28 rfl (lv_at hl 0 rfl) ?_
    refine va_get (D := D) (ci := 7) (v := .ref h5) (C := RX7) (T := TX7) (N := 15) hx hb ha inlX7 hown hK hP 0 rfl rfl 9 (by decide) (ha _ kf_X7_40) (fun _ h9 => h9) rfl dX7_tellLost_29 ?_
    refine lv_aload_n hx hb dX7_tellLost_32 rfl (lv_at hl 0 rfl) ?_
    refine va_get (D := D) (ci := 7) (v := .int 0) (C := RX7) (T := TX7) (N := 15) hx hb ha inlX7 hown hK hP 0 rfl rfl 10 (by decide) (ha _ kf_X7_47) (fun _ h9 => h9) rfl dX7_tellLost_33 ?_
    refine lv_iload_n hx hb dX7_tellLost_36 rfl (lv_at hl 1 rfl) ?_
    refine va_iast hx hb hK hP hD hS 1 0 rfl rfl (by unfold vp_in; decide) dX7_tellLost_37 (fun H locs hP hD hS => ?_)
    have hP : va_P D vwCl [(h0, .inr (7, [.int 10, .int 20, .int 20, .int 20, .null, .ref h1, .ref h2, .ref h3, .ref h4, .ref h5, .int 0, .int 0, .int 0, .int 0, .int 0])), (h5, .inl (cI, 64, .inl (upd (fun _ => 0) ((0 : Int32).toNatClampNeg) n)))] H := hP
    have hD : va_D A [(h0, .inr (7, [.int 10, .int 20, .int 20, .int 20, .null, .ref h1, .ref h2, .ref h3, .ref h4, .ref h5, .int 0, .int 0, .int 0, .int 0, .int 0])), (h5, .inl (cI, 64, .inl (upd (fun _ => 0) ((0 : Int32).toNatClampNeg) n)))] := hD
    refine lv_aload_n hx hb dX7_tellLost_38 rfl (lv_at hl 0 rfl) ?_
    refine lv_dup hx hb dX7_tellLost_39 rfl ?_
    refine va_get (D := D) (ci := 7) (v := .int 0) (C := RX7) (T := TX7) (N := 15) hx hb ha inlX7 hown hK hP 0 rfl rfl 10 (by decide) (ha _ kf_X7_47) (fun _ h9 => h9) rfl dX7_tellLost_40 ?_
    refine lv_iconst (v := 1) hx hb dX7_tellLost_43 (by decide) ?_
    refine lv_iadd hx hb dX7_tellLost_44 ?_
    refine lv_topi (fun v_5 ev_5 => ?_)
    obtain rfl : v_5 = 1 := ev_5.trans (by decide)
    refine va_put (D := D) (ci := 7) (v := .int 1) (ty := .int) (C := RX7) (T := TX7) (N := 15) hx hb ha inlX7 tyX7 tyX7_ok nmX7 hown hK hP hD hS 0 rfl rfl 10 (by decide) (ha _ kf_X7_47) (fun _ h9 => h9) rfl (by decide +kernel) rfl rfl (Nat.le_of_ble_eq_true rfl) dX7_tellLost_45 (fun H locs hP hD hS => ?_)
    have hP : va_P D vwCl [(h0, .inr (7, [.int 10, .int 20, .int 20, .int 20, .null, .ref h1, .ref h2, .ref h3, .ref h4, .ref h5, .int 1, .int 0, .int 0, .int 0, .int 0])), (h5, .inl (cI, 64, .inl (upd (fun _ => 0) ((0 : Int32).toNatClampNeg) n)))] H := hP
    have hD : va_D A [(h0, .inr (7, [.int 10, .int 20, .int 20, .int 20, .null, .ref h1, .ref h2, .ref h3, .ref h4, .ref h5, .int 1, .int 0, .int 0, .int 0, .int 0])), (h5, .inl (cI, 64, .inl (upd (fun _ => 0) ((0 : Int32).toNatClampNeg) n)))] := hD
    refine lv_iconst (v := 1) hx hb dX7_tellLost_48 (by decide) ?_
    exact W.zret (v := 1) hx hb hr rfl (fun t ht hW => ⟨⟨1, (), rfl, by simp [ls0, c_1], ⟨pw_P0, va_K.moved hW.alike hK, pw_D0⟩⟩, hS.F ht⟩) hS.2.2 dX7_tellLost_49

set_option maxHeartbeats 4000000 in
set_option maxRecDepth 100000 in
theorem c_lose (l : Launch) (D : va_G) (cI cJ cZ cO : ClassId) (sz : Nat) (h0 h1 h2 h3 h4 h5 h6 h7 : Nat) (n : Int32) : Met l yX10_lose (wa yX10_lose cX10_lose 2 (some .boolean)) ({ frames := 2, cells := 0, slots := 0, locals := 43 }) (va_Pc [.ref h0, .int n] (pw_s D cI cJ cZ cO sz [(h0, .inr (10, [.ref h1, .ref h7, .int 0])), (h1, .inr (7, [.int 10, .int 20, .int 20, .int 20, .null, .ref h2, .ref h3, .ref h4, .ref h5, .ref h6, .int 0, .int 0, .int 0, .int 0, .int 0])), (h2, .inr (1, [.null, .null, .int 0])), (h3, .inr (1, [.null, .null, .int 0])), (h4, .inr (1, [.null, .null, .int 0])), (h5, .inr (1, [.null, .null, .int 0])), (h6, .inl (cI, 64, .inl (fun _ => 0))), (h7, .inl (cO, 0, .inr (.inr (.inr (.inr (fun _ => none))))))])) (va_Qi (fun (r : Int32) (_ : Unit) => r = ls0 n) (fun (_ : Unit) (t : State) => pw_t D cI cJ cZ cO (va_A [(h0, .inr (10, [.ref h1, .ref h7, .int 0])), (h1, .inr (7, [.int 10, .int 20, .int 20, .int 20, .null, .ref h2, .ref h3, .ref h4, .ref h5, .ref h6, .int 0, .int 0, .int 0, .int 0, .int 0])), (h2, .inr (1, [.null, .null, .int 0])), (h3, .inr (1, [.null, .null, .int 0])), (h4, .inr (1, [.null, .null, .int 0])), (h5, .inr (1, [.null, .null, .int 0])), (h6, .inl (cI, 64, .inl (fun _ => 0))), (h7, .inl (cO, 0, .inr (.inr (.inr (.inr (fun _ => none))))))] sz) [] t) (va_A [(h0, .inr (10, [.ref h1, .ref h7, .int 0])), (h1, .inr (7, [.int 10, .int 20, .int 20, .int 20, .null, .ref h2, .ref h3, .ref h4, .ref h5, .ref h6, .int 0, .int 0, .int 0, .int 0, .int 0])), (h2, .inr (1, [.null, .null, .int 0])), (h3, .inr (1, [.null, .null, .int 0])), (h4, .inr (1, [.null, .null, .int 0])), (h5, .inr (1, [.null, .null, .int 0])), (h6, .inl (cI, 64, .inl (fun _ => 0))), (h7, .inl (cO, 0, .inr (.inr (.inr (.inr (fun _ => none))))))] sz)) 0 0 (va_A [(h0, .inr (10, [.ref h1, .ref h7, .int 0])), (h1, .inr (7, [.int 10, .int 20, .int 20, .int 20, .null, .ref h2, .ref h3, .ref h4, .ref h5, .ref h6, .int 0, .int 0, .int 0, .int 0, .int 0])), (h2, .inr (1, [.null, .null, .int 0])), (h3, .inr (1, [.null, .null, .int 0])), (h4, .inr (1, [.null, .null, .int 0])), (h5, .inr (1, [.null, .null, .int 0])), (h6, .inl (cI, 64, .inl (fun _ => 0))), (h7, .inl (cO, 0, .inr (.inr (.inr (.inr (fun _ => none))))))] sz) := by
  refine Met.ofW (cc := cX10_lose) (maxL := 2) (ret := (some .boolean)) (by decide) rfl ?_
  intro p e s m args below meth c s₁ B hml hv
  obtain ⟨rfl, hsz, hP, hK, hD0, hN⟩ := hv
  have hx := B.exec
  have hb := B.bytes
  have hr := B.returns
  have hts := atoms_spec (ws := (wa yX10_lose cX10_lose 2 (some .boolean))) B.pre
  have ha : ∀ w ∈ wsL_law, w.before _ s = true := fun w h => hts w (List.mem_cons_of_mem _ h)
  have hown : s.vm.findClass RX10 = some m.cls := findClass_of_methodNamed B.named
  have hlocks := B.notSynchronized
  subst hsz
  have hD := hD0.self (sz := s.heap.size)
  generalize hAe : va_A [(h0, .inr (10, [.ref h1, .ref h7, .int 0])), (h1, .inr (7, [.int 10, .int 20, .int 20, .int 20, .null, .ref h2, .ref h3, .ref h4, .ref h5, .ref h6, .int 0, .int 0, .int 0, .int 0, .int 0])), (h2, .inr (1, [.null, .null, .int 0])), (h3, .inr (1, [.null, .null, .int 0])), (h4, .inr (1, [.null, .null, .int 0])), (h5, .inr (1, [.null, .null, .int 0])), (h6, .inl (cI, 64, .inl (fun _ => 0))), (h7, .inl (cO, 0, .inr (.inr (.inr (.inr (fun _ => none))))))] s.heap.size = A at hD ⊢
  have hA : ∀ q : Nat, s.heap.size ≤ q → A q := fun q h => by rw [← hAe]; exact Or.inr h
  have hS : va_S A s.heap s.heap [] := va_S.rf
  have hP : va_P D vwCl [(h0, .inr (10, [.ref h1, .ref h7, .int 0])), (h1, .inr (7, [.int 10, .int 20, .int 20, .int 20, .null, .ref h2, .ref h3, .ref h4, .ref h5, .ref h6, .int 0, .int 0, .int 0, .int 0, .int 0])), (h2, .inr (1, [.null, .null, .int 0])), (h3, .inr (1, [.null, .null, .int 0])), (h4, .inr (1, [.null, .null, .int 0])), (h5, .inr (1, [.null, .null, .int 0])), (h6, .inl (cI, 64, .inl (fun _ => 0))), (h7, .inl (cO, 0, .inr (.inr (.inr (.inr (fun _ => none))))))] s.heap := hP
  have hl := lv_entry ([.ref h0, .int n]) (n := 2) (Nat.le_of_ble_eq_true rfl)
  rw [lg_entry_eq]
  generalize (lg_sl ([.ref h0, .int n]) ++ List.replicate (2 - (lg_sl ([.ref h0, .int n])).length) Slot.unset).toArray = ls at hl ⊢
  have hl : lv_has ls 2 [(0, .ref h0), (1, .int n)] := hl
  refine lv_aload_n hx hb dX10_lose_0 rfl (lv_at hl 0 rfl) ?_
  refine va_get (D := D) (ci := 10) (v := .ref h1) (C := RX10) (T := TX10) (N := 3) hx hb ha inlX10 hown hK hP 0 rfl rfl 0 (by decide) (ha _ kf_X10_10) (fun _ h9 => h9) rfl dX10_lose_1 ?_
  refine lv_iload_n hx hb dX10_lose_4 rfl (lv_at hl 1 rfl) ?_
  have hPc := hP.sub (ws' := [(h1, .inr (7, [.int 10, .int 20, .int 20, .int 20, .null, .ref h2, .ref h3, .ref h4, .ref h5, .ref h6, .int 0, .int 0, .int 0, .int 0, .int 0])), (h6, .inl (cI, 64, .inl (fun _ => 0)))]) [1, 6] rfl
  have hDc := hD.sub (ws' := [(h1, .inr (7, [.int 10, .int 20, .int 20, .int 20, .null, .ref h2, .ref h3, .ref h4, .ref h5, .ref h6, .int 0, .int 0, .int 0, .int 0, .int 0])), (h6, .inl (cI, 64, .inl (fun _ => 0)))]) [1, 6] (by decide) rfl
  have hFc := va_free (wc := [(h1, .inr (7, [.int 10, .int 20, .int 20, .int 20, .null, .ref h2, .ref h3, .ref h4, .ref h5, .ref h6, .int 0, .int 0, .int 0, .int 0, .int 0])), (h6, .inl (cI, 64, .inl (fun _ => 0)))]) hD hS hA [1, 6] rfl
  refine va_calli (va_runV (As := [.int n]) (rest := []) ⟨hx, hb, hml, hown, ha⟩ (c_tellLost l D cI cJ cZ cO _ h1 h2 h3 h4 h5 h6 n) (cwV 1 ha (gaV kl_X10_57 km_X7_tellLost ks_X7_tellLost kz_X7 kd_X7_tellLost) rfl rfl rfl (by decide +kernel) ⟨Nat.le_of_ble_eq_true rfl, Nat.le_of_ble_eq_true rfl⟩) ⟨pw_blind, va_recv hK hPc (ci := 7) (q0 := 0) rfl rfl, fun U hU hW => ⟨rfl, pw_start hU hW hPc hK hDc hN⟩⟩ rfl rfl hl.1 rfl (lv_room (Nat.le_of_ble_eq_true rfl)) dX10_lose_5 ⟨Nat.le_of_ble_eq_true rfl, Nat.le_of_ble_eq_true rfl⟩) hS (fun q _ h => hFc q h) hFc (fun r_1 u t H1 locs ht hvm hw hB hz1 hk1 hS => ?_)
  obtain ⟨hP1, hK1, hD1⟩ := hB
  rw [ht] at hP1
  obtain ⟨hP, hD⟩ := va_join (wr := [(h0, .inr (10, [.ref h1, .ref h7, .int 0])), (h2, .inr (1, [.null, .null, .int 0])), (h3, .inr (1, [.null, .null, .int 0])), (h4, .inr (1, [.null, .null, .int 0])), (h5, .inr (1, [.null, .null, .int 0])), (h7, .inl (cO, 0, .inr (.inr (.inr (.inr (fun _ => none))))))]) (w1 := []) hP hD [1, 6] [0, 2, 3, 4, 5, 7] rfl rfl (by decide) (by decide) hk1 hFc hP1 hD1
  generalize H1 = H at hP hS ⊢
  have hP : va_P D vwCl [(h0, .inr (10, [.ref h1, .ref h7, .int 0])), (h2, .inr (1, [.null, .null, .int 0])), (h3, .inr (1, [.null, .null, .int 0])), (h4, .inr (1, [.null, .null, .int 0])), (h5, .inr (1, [.null, .null, .int 0])), (h7, .inl (cO, 0, .inr (.inr (.inr (.inr (fun _ => none))))))] H := hP
  have hD : va_D A [(h0, .inr (10, [.ref h1, .ref h7, .int 0])), (h2, .inr (1, [.null, .null, .int 0])), (h3, .inr (1, [.null, .null, .int 0])), (h4, .inr (1, [.null, .null, .int 0])), (h5, .inr (1, [.null, .null, .int 0])), (h7, .inl (cO, 0, .inr (.inr (.inr (.inr (fun _ => none))))))] := hD
  refine W.widen (k := 0) (n := 0) (Nat.le_of_ble_eq_true rfl) (Nat.le_of_ble_eq_true rfl) ?_
  have hr_1 := hw
  exact W.zret (v := r_1) hx hb hr (by rw [hr_1]; unfold ls0; split <;> rfl) (fun t ht hW => ⟨⟨r_1, (), rfl, hr_1, ⟨pw_P0, va_K.moved hW.alike hK, pw_D0⟩⟩, hS.F ht⟩) hS.2.2 dX10_lose_8

set_option maxHeartbeats 4000000 in
set_option maxRecDepth 100000 in
theorem c_roadTell (l : Launch) (D : va_G) (cI cJ cZ cO : ClassId) (sz : Nat) (h0 h1 h2 h3 h4 h5 : Nat) (w : Int32) : Met l yX7_tell (wa yX7_tell cX7_tell 2 (some .int)) ({ frames := 0, cells := 0, slots := 0, locals := 0 }) (va_Pc [.ref h0, .int w] (pw_s D cI cJ cZ cO sz [(h0, .inr (7, [.int 10, .int 20, .int 20, .int 20, .null, .ref h1, .ref h2, .ref h3, .ref h4, .ref h5, .int 0, .int 0, .int 0, .int 0, .int 0])), (h1, .inr (1, [.null, .null, .int 0])), (h2, .inr (1, [.null, .null, .int 0])), (h3, .inr (1, [.null, .null, .int 0]))])) (va_Qi (fun (r : Int32) (_ : Unit) => r = tl w) (fun (_ : Unit) (t : State) => pw_t D cI cJ cZ cO (va_A [(h0, .inr (7, [.int 10, .int 20, .int 20, .int 20, .null, .ref h1, .ref h2, .ref h3, .ref h4, .ref h5, .int 0, .int 0, .int 0, .int 0, .int 0])), (h1, .inr (1, [.null, .null, .int 0])), (h2, .inr (1, [.null, .null, .int 0])), (h3, .inr (1, [.null, .null, .int 0]))] sz) [] t) (va_A [(h0, .inr (7, [.int 10, .int 20, .int 20, .int 20, .null, .ref h1, .ref h2, .ref h3, .ref h4, .ref h5, .int 0, .int 0, .int 0, .int 0, .int 0])), (h1, .inr (1, [.null, .null, .int 0])), (h2, .inr (1, [.null, .null, .int 0])), (h3, .inr (1, [.null, .null, .int 0]))] sz)) 0 0 (va_A [(h0, .inr (7, [.int 10, .int 20, .int 20, .int 20, .null, .ref h1, .ref h2, .ref h3, .ref h4, .ref h5, .int 0, .int 0, .int 0, .int 0, .int 0])), (h1, .inr (1, [.null, .null, .int 0])), (h2, .inr (1, [.null, .null, .int 0])), (h3, .inr (1, [.null, .null, .int 0]))] sz) := by
  refine Met.ofW (cc := cX7_tell) (maxL := 2) (ret := (some .int)) (by decide) rfl ?_
  intro p e s m args below meth c s₁ B hml hv
  obtain ⟨rfl, hsz, hP, hK, hD0, hN⟩ := hv
  have hx := B.exec
  have hb := B.bytes
  have hr := B.returns
  have hts := atoms_spec (ws := (wa yX7_tell cX7_tell 2 (some .int))) B.pre
  have ha : ∀ w ∈ wsL_law, w.before _ s = true := fun w h => hts w (List.mem_cons_of_mem _ h)
  have hown : s.vm.findClass RX7 = some m.cls := findClass_of_methodNamed B.named
  have hlocks := B.notSynchronized
  subst hsz
  have hD := hD0.self (sz := s.heap.size)
  generalize hAe : va_A [(h0, .inr (7, [.int 10, .int 20, .int 20, .int 20, .null, .ref h1, .ref h2, .ref h3, .ref h4, .ref h5, .int 0, .int 0, .int 0, .int 0, .int 0])), (h1, .inr (1, [.null, .null, .int 0])), (h2, .inr (1, [.null, .null, .int 0])), (h3, .inr (1, [.null, .null, .int 0]))] s.heap.size = A at hD ⊢
  have hA : ∀ q : Nat, s.heap.size ≤ q → A q := fun q h => by rw [← hAe]; exact Or.inr h
  have hS : va_S A s.heap s.heap [] := va_S.rf
  have hP : va_P D vwCl [(h0, .inr (7, [.int 10, .int 20, .int 20, .int 20, .null, .ref h1, .ref h2, .ref h3, .ref h4, .ref h5, .int 0, .int 0, .int 0, .int 0, .int 0])), (h1, .inr (1, [.null, .null, .int 0])), (h2, .inr (1, [.null, .null, .int 0])), (h3, .inr (1, [.null, .null, .int 0]))] s.heap := hP
  have hl := lv_entry ([.ref h0, .int w]) (n := 2) (Nat.le_of_ble_eq_true rfl)
  rw [lg_entry_eq]
  generalize (lg_sl ([.ref h0, .int w]) ++ List.replicate (2 - (lg_sl ([.ref h0, .int w])).length) Slot.unset).toArray = ls at hl ⊢
  have hl : lv_has ls 2 [(0, .ref h0), (1, .int w)] := hl
  refine lv_iload_n hx hb dX7_tell_0 rfl (lv_at hl 1 rfl) ?_
  by_cases t_1_2 : w = 2
  · refine lv_tableIn (tgt := 48) (off := 47) hx hb dX7_tell_1 (by rw [t_1_2]; decide) (by rw [t_1_2]; decide) (by rw [t_1_2]; rfl) (by decide) ?_
    refine lv_aload_n hx hb dX7_tell_48 rfl (lv_at hl 0 rfl) ?_
    refine va_get (D := D) (ci := 7) (v := .int 0) (C := RX7) (T := TX7) (N := 15) hx hb ha inlX7 hown hK hP 0 rfl rfl 11 (by decide) (ha _ kf_X7_44) (fun _ h9 => h9) rfl dX7_tell_49 ?_
    exact W.iret (v := 0) hx hb hr (fun t ht hW => ⟨⟨0, (), rfl, by rw [t_1_2]; decide, ⟨pw_P0, va_K.moved hW.alike hK, pw_D0⟩⟩, hS.F ht⟩) hS.2.2 dX7_tell_52
  by_cases t_1_3 : w = 3
  · refine lv_tableIn (tgt := 53) (off := 52) hx hb dX7_tell_1 (by rw [t_1_3]; decide) (by rw [t_1_3]; decide) (by rw [t_1_3]; rfl) (by decide) ?_
    refine lv_aload_n hx hb dX7_tell_53 rfl (lv_at hl 0 rfl) ?_
    refine va_get (D := D) (ci := 7) (v := .ref h1) (C := RX7) (T := TX7) (N := 15) hx hb ha inlX7 hown hK hP 0 rfl rfl 5 (by decide) (ha _ kf_X7_27) (fun _ h9 => h9) rfl dX7_tell_54 ?_
    refine va_getN (D := D) (ci := 1) (v := .int 0) (C := RX1) (T := TX1) (N := 3) hx hb ha inlX1 hown hK hP 1 rfl rfl 2 (by decide) (va_Nw.use rfl (hN.f RX7 78 "CongestionBench$Chain" "size" "I" "CongestionBench" (by decide +kernel))) (fun _ h9 => h9) rfl dX7_tell_57 ?_
    exact W.iret (v := 0) hx hb hr (fun t ht hW => ⟨⟨0, (), rfl, by rw [t_1_3]; decide, ⟨pw_P0, va_K.moved hW.alike hK, pw_D0⟩⟩, hS.F ht⟩) hS.2.2 dX7_tell_60
  by_cases t_1_4 : w = 4
  · refine lv_tableIn (tgt := 61) (off := 60) hx hb dX7_tell_1 (by rw [t_1_4]; decide) (by rw [t_1_4]; decide) (by rw [t_1_4]; rfl) (by decide) ?_
    refine lv_aload_n hx hb dX7_tell_61 rfl (lv_at hl 0 rfl) ?_
    refine va_get (D := D) (ci := 7) (v := .int 0) (C := RX7) (T := TX7) (N := 15) hx hb ha inlX7 hown hK hP 0 rfl rfl 12 (by decide) (ha _ kf_X7_81) (fun _ h9 => h9) rfl dX7_tell_62 ?_
    exact W.iret (v := 0) hx hb hr (fun t ht hW => ⟨⟨0, (), rfl, by rw [t_1_4]; decide, ⟨pw_P0, va_K.moved hW.alike hK, pw_D0⟩⟩, hS.F ht⟩) hS.2.2 dX7_tell_65
  by_cases t_1_5 : w = 5
  · refine lv_tableIn (tgt := 66) (off := 65) hx hb dX7_tell_1 (by rw [t_1_5]; decide) (by rw [t_1_5]; decide) (by rw [t_1_5]; rfl) (by decide) ?_
    refine lv_aload_n hx hb dX7_tell_66 rfl (lv_at hl 0 rfl) ?_
    refine va_get (D := D) (ci := 7) (v := .int 0) (C := RX7) (T := TX7) (N := 15) hx hb ha inlX7 hown hK hP 0 rfl rfl 13 (by decide) (ha _ kf_X7_75) (fun _ h9 => h9) rfl dX7_tell_67 ?_
    exact W.iret (v := 0) hx hb hr (fun t ht hW => ⟨⟨0, (), rfl, by rw [t_1_5]; decide, ⟨pw_P0, va_K.moved hW.alike hK, pw_D0⟩⟩, hS.F ht⟩) hS.2.2 dX7_tell_70
  by_cases t_1_6 : w = 6
  · refine lv_tableIn (tgt := 71) (off := 70) hx hb dX7_tell_1 (by rw [t_1_6]; decide) (by rw [t_1_6]; decide) (by rw [t_1_6]; rfl) (by decide) ?_
    refine lv_aload_n hx hb dX7_tell_71 rfl (lv_at hl 0 rfl) ?_
    refine va_get (D := D) (ci := 7) (v := .ref h2) (C := RX7) (T := TX7) (N := 15) hx hb ha inlX7 hown hK hP 0 rfl rfl 6 (by decide) (ha _ kf_X7_31) (fun _ h9 => h9) rfl dX7_tell_72 ?_
    refine va_getN (D := D) (ci := 1) (v := .int 0) (C := RX1) (T := TX1) (N := 3) hx hb ha inlX1 hown hK hP 2 rfl rfl 2 (by decide) (va_Nw.use rfl (hN.f RX7 78 "CongestionBench$Chain" "size" "I" "CongestionBench" (by decide +kernel))) (fun _ h9 => h9) rfl dX7_tell_75 ?_
    exact W.iret (v := 0) hx hb hr (fun t ht hW => ⟨⟨0, (), rfl, by rw [t_1_6]; decide, ⟨pw_P0, va_K.moved hW.alike hK, pw_D0⟩⟩, hS.F ht⟩) hS.2.2 dX7_tell_78
  by_cases t_1_7 : w = 7
  · refine lv_tableIn (tgt := 79) (off := 78) hx hb dX7_tell_1 (by rw [t_1_7]; decide) (by rw [t_1_7]; decide) (by rw [t_1_7]; rfl) (by decide) ?_
    refine lv_aload_n hx hb dX7_tell_79 rfl (lv_at hl 0 rfl) ?_
    refine va_get (D := D) (ci := 7) (v := .ref h3) (C := RX7) (T := TX7) (N := 15) hx hb ha inlX7 hown hK hP 0 rfl rfl 7 (by decide) (ha _ kf_X7_34) (fun _ h9 => h9) rfl dX7_tell_80 ?_
    refine va_getN (D := D) (ci := 1) (v := .int 0) (C := RX1) (T := TX1) (N := 3) hx hb ha inlX1 hown hK hP 3 rfl rfl 2 (by decide) (va_Nw.use rfl (hN.f RX7 78 "CongestionBench$Chain" "size" "I" "CongestionBench" (by decide +kernel))) (fun _ h9 => h9) rfl dX7_tell_83 ?_
    exact W.iret (v := 0) hx hb hr (fun t ht hW => ⟨⟨0, (), rfl, by rw [t_1_7]; decide, ⟨pw_P0, va_K.moved hW.alike hK, pw_D0⟩⟩, hS.F ht⟩) hS.2.2 dX7_tell_86
  by_cases t_1_8 : w = 8
  · refine lv_tableIn (tgt := 87) (off := 86) hx hb dX7_tell_1 (by rw [t_1_8]; decide) (by rw [t_1_8]; decide) (by rw [t_1_8]; rfl) (by decide) ?_
    refine lv_aload_n hx hb dX7_tell_87 rfl (lv_at hl 0 rfl) ?_
    refine va_get (D := D) (ci := 7) (v := .null) (C := RX7) (T := TX7) (N := 15) hx hb ha inlX7 hown hK hP 0 rfl rfl 4 (by decide) (ha _ kf_X7_54) (fun _ h9 => h9) rfl dX7_tell_88 ?_
    refine lv_ifnonnullN hx hb dX7_tell_91 ?_
    refine lv_iconst (v := 0) hx hb dX7_tell_94 (by decide) ?_
    refine lv_goto (tgt := 99) hx hb dX7_tell_95 (by decide) ?_
    exact W.iret (v := 0) hx hb hr (fun t ht hW => ⟨⟨0, (), rfl, by rw [t_1_8]; decide, ⟨pw_P0, va_K.moved hW.alike hK, pw_D0⟩⟩, hS.F ht⟩) hS.2.2 dX7_tell_99
  by_cases t_1_9 : w = 9
  · refine lv_tableIn (tgt := 100) (off := 99) hx hb dX7_tell_1 (by rw [t_1_9]; decide) (by rw [t_1_9]; decide) (by rw [t_1_9]; rfl) (by decide) ?_
    refine lv_aload_n hx hb dX7_tell_100 rfl (lv_at hl 0 rfl) ?_
    refine va_get (D := D) (ci := 7) (v := .int 0) (C := RX7) (T := TX7) (N := 15) hx hb ha inlX7 hown hK hP 0 rfl rfl 14 (by decide) (ha _ kf_X7_132) (fun _ h9 => h9) rfl dX7_tell_101 ?_
    exact W.iret (v := 0) hx hb hr (fun t ht hW => ⟨⟨0, (), rfl, by rw [t_1_9]; decide, ⟨pw_P0, va_K.moved hW.alike hK, pw_D0⟩⟩, hS.F ht⟩) hS.2.2 dX7_tell_104
  refine lv_tableOut (tgt := 105) hx hb dX7_tell_1 (by have h0 := lv_neT (a := 2) t_1_2 (by decide); have h1 := lv_neT (a := 3) t_1_3 (by decide); have h2 := lv_neT (a := 4) t_1_4 (by decide); have h3 := lv_neT (a := 5) t_1_5 (by decide); have h4 := lv_neT (a := 6) t_1_6 (by decide); have h5 := lv_neT (a := 7) t_1_7 (by decide); have h6 := lv_neT (a := 8) t_1_8 (by decide); have h7 := lv_neT (a := 9) t_1_9 (by decide); omega) (by decide) ?_
  refine lv_iconst (v := (-1)) hx hb dX7_tell_105 (by decide) ?_
  exact W.iret (v := (-1)) hx hb hr (fun t ht hW => ⟨⟨(-1), (), rfl, by simp [tl, t_1_2, t_1_3, t_1_4, t_1_5, t_1_6, t_1_7, t_1_8, t_1_9], ⟨pw_P0, va_K.moved hW.alike hK, pw_D0⟩⟩, hS.F ht⟩) hS.2.2 dX7_tell_106

set_option maxHeartbeats 4000000 in
set_option maxRecDepth 100000 in
theorem c_count (l : Launch) (D : va_G) (cI cJ cZ cO : ClassId) (sz : Nat) (h0 h1 h2 h3 h4 h5 h6 h7 : Nat) (w : Int32) : Met l yX10_count (wa yX10_count cX10_count 2 (some .int)) ({ frames := 1, cells := 0, slots := 0, locals := 21 }) (va_Pc [.ref h0, .int w] (pw_s D cI cJ cZ cO sz [(h0, .inr (10, [.ref h1, .ref h7, .int 0])), (h1, .inr (7, [.int 10, .int 20, .int 20, .int 20, .null, .ref h2, .ref h3, .ref h4, .ref h5, .ref h6, .int 0, .int 0, .int 0, .int 0, .int 0])), (h2, .inr (1, [.null, .null, .int 0])), (h3, .inr (1, [.null, .null, .int 0])), (h4, .inr (1, [.null, .null, .int 0])), (h5, .inr (1, [.null, .null, .int 0])), (h6, .inl (cI, 64, .inl (fun _ => 0))), (h7, .inl (cO, 0, .inr (.inr (.inr (.inr (fun _ => none))))))])) (va_Qi (fun (r : Int32) (_ : Unit) => r = cnt w) (fun (_ : Unit) (t : State) => pw_t D cI cJ cZ cO (va_A [(h0, .inr (10, [.ref h1, .ref h7, .int 0])), (h1, .inr (7, [.int 10, .int 20, .int 20, .int 20, .null, .ref h2, .ref h3, .ref h4, .ref h5, .ref h6, .int 0, .int 0, .int 0, .int 0, .int 0])), (h2, .inr (1, [.null, .null, .int 0])), (h3, .inr (1, [.null, .null, .int 0])), (h4, .inr (1, [.null, .null, .int 0])), (h5, .inr (1, [.null, .null, .int 0])), (h6, .inl (cI, 64, .inl (fun _ => 0))), (h7, .inl (cO, 0, .inr (.inr (.inr (.inr (fun _ => none))))))] sz) [] t) (va_A [(h0, .inr (10, [.ref h1, .ref h7, .int 0])), (h1, .inr (7, [.int 10, .int 20, .int 20, .int 20, .null, .ref h2, .ref h3, .ref h4, .ref h5, .ref h6, .int 0, .int 0, .int 0, .int 0, .int 0])), (h2, .inr (1, [.null, .null, .int 0])), (h3, .inr (1, [.null, .null, .int 0])), (h4, .inr (1, [.null, .null, .int 0])), (h5, .inr (1, [.null, .null, .int 0])), (h6, .inl (cI, 64, .inl (fun _ => 0))), (h7, .inl (cO, 0, .inr (.inr (.inr (.inr (fun _ => none))))))] sz)) 0 0 (va_A [(h0, .inr (10, [.ref h1, .ref h7, .int 0])), (h1, .inr (7, [.int 10, .int 20, .int 20, .int 20, .null, .ref h2, .ref h3, .ref h4, .ref h5, .ref h6, .int 0, .int 0, .int 0, .int 0, .int 0])), (h2, .inr (1, [.null, .null, .int 0])), (h3, .inr (1, [.null, .null, .int 0])), (h4, .inr (1, [.null, .null, .int 0])), (h5, .inr (1, [.null, .null, .int 0])), (h6, .inl (cI, 64, .inl (fun _ => 0))), (h7, .inl (cO, 0, .inr (.inr (.inr (.inr (fun _ => none))))))] sz) := by
  refine Met.ofW (cc := cX10_count) (maxL := 2) (ret := (some .int)) (by decide) rfl ?_
  intro p e s m args below meth c s₁ B hml hv
  obtain ⟨rfl, hsz, hP, hK, hD0, hN⟩ := hv
  have hx := B.exec
  have hb := B.bytes
  have hr := B.returns
  have hts := atoms_spec (ws := (wa yX10_count cX10_count 2 (some .int))) B.pre
  have ha : ∀ w ∈ wsL_law, w.before _ s = true := fun w h => hts w (List.mem_cons_of_mem _ h)
  have hown : s.vm.findClass RX10 = some m.cls := findClass_of_methodNamed B.named
  have hlocks := B.notSynchronized
  subst hsz
  have hD := hD0.self (sz := s.heap.size)
  generalize hAe : va_A [(h0, .inr (10, [.ref h1, .ref h7, .int 0])), (h1, .inr (7, [.int 10, .int 20, .int 20, .int 20, .null, .ref h2, .ref h3, .ref h4, .ref h5, .ref h6, .int 0, .int 0, .int 0, .int 0, .int 0])), (h2, .inr (1, [.null, .null, .int 0])), (h3, .inr (1, [.null, .null, .int 0])), (h4, .inr (1, [.null, .null, .int 0])), (h5, .inr (1, [.null, .null, .int 0])), (h6, .inl (cI, 64, .inl (fun _ => 0))), (h7, .inl (cO, 0, .inr (.inr (.inr (.inr (fun _ => none))))))] s.heap.size = A at hD ⊢
  have hA : ∀ q : Nat, s.heap.size ≤ q → A q := fun q h => by rw [← hAe]; exact Or.inr h
  have hS : va_S A s.heap s.heap [] := va_S.rf
  have hP : va_P D vwCl [(h0, .inr (10, [.ref h1, .ref h7, .int 0])), (h1, .inr (7, [.int 10, .int 20, .int 20, .int 20, .null, .ref h2, .ref h3, .ref h4, .ref h5, .ref h6, .int 0, .int 0, .int 0, .int 0, .int 0])), (h2, .inr (1, [.null, .null, .int 0])), (h3, .inr (1, [.null, .null, .int 0])), (h4, .inr (1, [.null, .null, .int 0])), (h5, .inr (1, [.null, .null, .int 0])), (h6, .inl (cI, 64, .inl (fun _ => 0))), (h7, .inl (cO, 0, .inr (.inr (.inr (.inr (fun _ => none))))))] s.heap := hP
  have hl := lv_entry ([.ref h0, .int w]) (n := 2) (Nat.le_of_ble_eq_true rfl)
  rw [lg_entry_eq]
  generalize (lg_sl ([.ref h0, .int w]) ++ List.replicate (2 - (lg_sl ([.ref h0, .int w])).length) Slot.unset).toArray = ls at hl ⊢
  have hl : lv_has ls 2 [(0, .ref h0), (1, .int w)] := hl
  refine lv_iload_n hx hb dX10_count_0 rfl (lv_at hl 1 rfl) ?_
  by_cases t_1_0 : w = 0
  · refine lv_lookup (tgt := 28) (off := 27) hx hb dX10_count_1 (by decide) (by rw [t_1_0]; decide) (by decide) ?_
    refine lv_aload_n hx hb dX10_count_28 rfl (lv_at hl 0 rfl) ?_
    refine va_get (D := D) (ci := 10) (v := .int 0) (C := RX10) (T := TX10) (N := 3) hx hb ha inlX10 hown hK hP 0 rfl rfl 2 (by decide) (ha _ kf_X10_60) (fun _ h9 => h9) rfl dX10_count_29 ?_
    exact W.iret (v := 0) hx hb hr (fun t ht hW => ⟨⟨0, (), rfl, by rw [t_1_0]; decide, ⟨pw_P0, va_K.moved hW.alike hK, pw_D0⟩⟩, hS.F ht⟩) hS.2.2 dX10_count_32
  by_cases t_1_1 : w = 1
  · refine lv_lookup (tgt := 33) (off := 32) hx hb dX10_count_1 (by decide) (by rw [t_1_1]; decide) (by decide) ?_
    refine lv_aload_n hx hb dX10_count_33 rfl (lv_at hl 0 rfl) ?_
    refine va_get (D := D) (ci := 10) (v := .ref h7) (C := RX10) (T := TX10) (N := 3) hx hb ha inlX10 hown hK hP 0 rfl rfl 1 (by decide) (ha _ kf_X10_18) (fun _ h9 => h9) rfl dX10_count_34 ?_
    refine va_alen hx hb hK hP 7 3 (v := 0) rfl rfl (by decide) dX10_count_37 ?_
    exact W.iret (v := 0) hx hb hr (fun t ht hW => ⟨⟨0, (), rfl, by rw [t_1_1]; decide, ⟨pw_P0, va_K.moved hW.alike hK, pw_D0⟩⟩, hS.F ht⟩) hS.2.2 dX10_count_38
  refine lv_lookup (tgt := 39) (off := 38) hx hb dX10_count_1 (by decide) ((lv_osw (k := 0) t_1_0 (by decide)).trans ((lv_osw (k := 1) t_1_1 (by decide)).trans (rfl))) (by decide) ?_
  refine lv_aload_n hx hb dX10_count_39 rfl (lv_at hl 0 rfl) ?_
  refine va_get (D := D) (ci := 10) (v := .ref h1) (C := RX10) (T := TX10) (N := 3) hx hb ha inlX10 hown hK hP 0 rfl rfl 0 (by decide) (ha _ kf_X10_10) (fun _ h9 => h9) rfl dX10_count_40 ?_
  refine lv_iload_n hx hb dX10_count_43 rfl (lv_at hl 1 rfl) ?_
  have hPc := hP.sub (ws' := [(h1, .inr (7, [.int 10, .int 20, .int 20, .int 20, .null, .ref h2, .ref h3, .ref h4, .ref h5, .ref h6, .int 0, .int 0, .int 0, .int 0, .int 0])), (h2, .inr (1, [.null, .null, .int 0])), (h3, .inr (1, [.null, .null, .int 0])), (h4, .inr (1, [.null, .null, .int 0]))]) [1, 2, 3, 4] rfl
  have hDc := hD.sub (ws' := [(h1, .inr (7, [.int 10, .int 20, .int 20, .int 20, .null, .ref h2, .ref h3, .ref h4, .ref h5, .ref h6, .int 0, .int 0, .int 0, .int 0, .int 0])), (h2, .inr (1, [.null, .null, .int 0])), (h3, .inr (1, [.null, .null, .int 0])), (h4, .inr (1, [.null, .null, .int 0]))]) [1, 2, 3, 4] (by decide) rfl
  have hFc := va_free (wc := [(h1, .inr (7, [.int 10, .int 20, .int 20, .int 20, .null, .ref h2, .ref h3, .ref h4, .ref h5, .ref h6, .int 0, .int 0, .int 0, .int 0, .int 0])), (h2, .inr (1, [.null, .null, .int 0])), (h3, .inr (1, [.null, .null, .int 0])), (h4, .inr (1, [.null, .null, .int 0]))]) hD hS hA [1, 2, 3, 4] rfl
  refine va_calli (va_runV (As := [.int w]) (rest := []) ⟨hx, hb, hml, hown, ha⟩ (c_roadTell l D cI cJ cZ cO _ h1 h2 h3 h4 h5 h6 w) (cwV 1 ha (gaV kl_X10_101 km_X7_tell ks_X7_tell kz_X7 kd_X7_tell) rfl rfl rfl (by decide +kernel) ⟨Nat.le_of_ble_eq_true rfl, Nat.le_of_ble_eq_true rfl⟩) ⟨pw_blind, va_recv hK hPc (ci := 7) (q0 := 0) rfl rfl, fun U hU hW => ⟨rfl, pw_start hU hW hPc hK hDc hN⟩⟩ rfl rfl hl.1 rfl (lv_room (Nat.le_of_ble_eq_true rfl)) dX10_count_44 ⟨Nat.le_of_ble_eq_true rfl, Nat.le_of_ble_eq_true rfl⟩) hS (fun q _ h => hFc q h) hFc (fun r_2 u t H1 locs ht hvm hw hB hz1 hk1 hS => ?_)
  obtain ⟨hP1, hK1, hD1⟩ := hB
  rw [ht] at hP1
  obtain ⟨hP, hD⟩ := va_join (wr := [(h0, .inr (10, [.ref h1, .ref h7, .int 0])), (h5, .inr (1, [.null, .null, .int 0])), (h6, .inl (cI, 64, .inl (fun _ => 0))), (h7, .inl (cO, 0, .inr (.inr (.inr (.inr (fun _ => none))))))]) (w1 := []) hP hD [1, 2, 3, 4] [0, 5, 6, 7] rfl rfl (by decide) (by decide) hk1 hFc hP1 hD1
  generalize H1 = H at hP hS ⊢
  have hP : va_P D vwCl [(h0, .inr (10, [.ref h1, .ref h7, .int 0])), (h5, .inr (1, [.null, .null, .int 0])), (h6, .inl (cI, 64, .inl (fun _ => 0))), (h7, .inl (cO, 0, .inr (.inr (.inr (.inr (fun _ => none))))))] H := hP
  have hD : va_D A [(h0, .inr (10, [.ref h1, .ref h7, .int 0])), (h5, .inr (1, [.null, .null, .int 0])), (h6, .inl (cI, 64, .inl (fun _ => 0))), (h7, .inl (cO, 0, .inr (.inr (.inr (.inr (fun _ => none))))))] := hD
  refine W.widen (k := 0) (n := 0) (Nat.le_of_ble_eq_true rfl) (Nat.le_of_ble_eq_true rfl) ?_
  have hr_2 := hw
  exact W.iret (v := r_2) hx hb hr (fun t ht hW => ⟨⟨r_2, (), rfl, by rw [hr_2]; simp [cnt, t_1_0, t_1_1], ⟨pw_P0, va_K.moved hW.alike hK, pw_D0⟩⟩, hS.F ht⟩) hS.2.2 dX10_count_47
