set_option maxHeartbeats 4000000 in
set_option maxRecDepth 100000 in
theorem s_append (l : Launch) (D : va_G) (cI cJ cZ cO : ClassId) (sz : Nat) (h0 q : Nat) (L : List Nat) (kd : Nat → Bool) (pi : Nat → Nat → Int32) (bd : Nat → Nat) (af : Nat → Option Nat) (bo : Nat → Nat → Int64) (fi la : Option Nat) (n : Int32) (m_q : q ∈ L) (k_q : kd q = false) (hla : ∀ z, la = some z → z ∈ L ∧ kd z = false) : Met l yX1_append (wa yX1_append cX1_append 2 none) ({ frames := 0, cells := 0, slots := 0, locals := 0 }) (va_Pc [.ref h0, .ref q] (pw_s D cI cJ cZ cO sz ([(h0, .inr (1, [va_rf fi, va_rf la, .int n]))] ++ va_pl L (pf cJ kd pi bd af bo)))) (va_Qv (fun (_ : Unit) => True) (fun (_ : Unit) (t : State) => pw_t D cI cJ cZ cO (va_A ([(h0, .inr (1, [va_rf fi, va_rf la, .int n]))] ++ va_pl L (pf cJ kd pi bd af bo)) sz) ([(h0, .inr (1, [va_rf (ap_fi la fi q), va_rf (some q), .int (n + 1)]))] ++ va_pl L (pf cJ kd pi bd (ap_af af la q) bo)) t) (va_A ([(h0, .inr (1, [va_rf fi, va_rf la, .int n]))] ++ va_pl L (pf cJ kd pi bd af bo)) sz)) 0 0 (va_A ([(h0, .inr (1, [va_rf fi, va_rf la, .int n]))] ++ va_pl L (pf cJ kd pi bd af bo)) sz) := by
  refine Met.ofW (cc := cX1_append) (maxL := 2) (ret := none) (by decide) rfl ?_
  intro p e s m args below meth c s₁ B hml hv
  obtain ⟨rfl, hsz, hP, hK, hD0, hN⟩ := hv
  have hx := B.exec
  have hb := B.bytes
  have hr := B.returns
  have hts := atoms_spec (ws := (wa yX1_append cX1_append 2 none)) B.pre
  have ha : ∀ w ∈ wsL_law, w.before _ s = true := fun w h => hts w (List.mem_cons_of_mem _ h)
  have hown : s.vm.findClass RX1 = some m.cls := findClass_of_methodNamed B.named
  have hlocks := B.notSynchronized
  subst hsz
  have hD := hD0.self (sz := s.heap.size)
  generalize hAe : va_A ([(h0, .inr (1, [va_rf fi, va_rf la, .int n]))] ++ va_pl L (pf cJ kd pi bd af bo)) s.heap.size = A at hD ⊢
  have hA : ∀ q : Nat, s.heap.size ≤ q → A q := fun q h => by rw [← hAe]; exact Or.inr h
  have hS : va_S A s.heap s.heap [] := va_S.rf
  have hP : va_P D vwCl ([(h0, .inr (1, [va_rf fi, va_rf la, .int n]))] ++ va_pl L (pf cJ kd pi bd af bo)) s.heap := hP
  have hl := lv_entry ([.ref h0, .ref q]) (n := 2) (Nat.le_of_ble_eq_true rfl)
  rw [lg_entry_eq]
  generalize (lg_sl ([.ref h0, .ref q]) ++ List.replicate (2 - (lg_sl ([.ref h0, .ref q])).length) Slot.unset).toArray = ls at hl ⊢
  have hl : lv_has ls 2 [(0, .ref h0), (1, .ref q)] := hl
  -- from the entry
  refine lv_aload_n hx hb dX1_append_0 rfl (lv_at hl 1 rfl) ?_
  refine lv_null hx hb dX1_append_1 ?_
  obtain ⟨k_6, hk_6⟩ := va_pl_get (X := [(h0, .inr (1, [va_rf fi, va_rf la, .int n]))]) (f := pf cJ kd pi bd af bo) m_q
  refine va_putN (D := D) (ci := 5) (v := .null) (ty := .object "CongestionBench$Parcel") (C := RX5) (T := TX5) (N := 7) hx hb ha inlX5 tyX5 tyX5_ok nmX5 hown hK hP hD hS k_6 (hk_6.trans (congrArg (fun z => some (q, z)) (pf_p k_q))) rfl 6 (by decide) (va_Nw.use rfl (hN.f RX1 9 "CongestionBench$Parcel" "after" "LCongestionBench$Parcel;" "CongestionBench" (by decide +kernel))) (fun _ h9 => h9) rfl (by decide +kernel) rfl rfl (Nat.le_of_ble_eq_true rfl) dX1_append_2 (fun H locs hP1 hD1 hS => ?_)
  have hP : va_P D vwCl ([(h0, .inr (1, [va_rf fi, va_rf la, .int n]))] ++ va_pl L (pf cJ kd pi bd (va_up af q none) bo)) H := by rw [← pf_u6 k_q, ← va_pl_set hD m_q hk_6]; exact hP1
  have hD : va_D A ([(h0, .inr (1, [va_rf fi, va_rf la, .int n]))] ++ va_pl L (pf cJ kd pi bd (va_up af q none) bo)) := by rw [← pf_u6 k_q, ← va_pl_set hD m_q hk_6]; exact hD1
  refine lv_aload_n hx hb dX1_append_5 rfl (lv_at hl 0 rfl) ?_
  refine va_get (D := D) (ci := 1) (v := va_rf la) (C := RX1) (T := TX1) (N := 3) hx hb ha inlX1 hown hK hP 0 rfl rfl 1 (by decide) (ha _ kf_X1_15) (fun _ h9 => h9) rfl dX1_append_6 ?_
  cases la with
  | none =>
    have hP : va_P D vwCl ([(h0, .inr (1, [va_rf fi, .null, .int n]))] ++ va_pl L (pf cJ kd pi bd (va_up af q none) bo)) _ := hP
    have hD : va_D A ([(h0, .inr (1, [va_rf fi, .null, .int n]))] ++ va_pl L (pf cJ kd pi bd (va_up af q none) bo)) := hD
    refine lv_ifnonnullN hx hb dX1_append_9 ?_
    refine lv_aload_n hx hb dX1_append_12 rfl (lv_at hl 0 rfl) ?_
    refine lv_aload_n hx hb dX1_append_13 rfl (lv_at hl 1 rfl) ?_
    refine va_put (D := D) (ci := 1) (v := .ref q) (ty := .object "CongestionBench$Parcel") (C := RX1) (T := TX1) (N := 3) hx hb ha inlX1 tyX1 tyX1_ok nmX1 hown hK hP hD hS 0 rfl rfl 0 (by decide) (ha _ kf_X1_20) (fun _ h9 => h9) rfl (by decide +kernel) rfl rfl (Nat.le_of_ble_eq_true rfl) dX1_append_14 (fun H locs hP hD hS => ?_)
    have hP : va_P D vwCl ([(h0, .inr (1, [.ref q, .null, .int n]))] ++ va_pl L (pf cJ kd pi bd (va_up af q none) bo)) H := hP
    have hD : va_D A ([(h0, .inr (1, [.ref q, .null, .int n]))] ++ va_pl L (pf cJ kd pi bd (va_up af q none) bo)) := hD
    refine lv_goto (tgt := 28) hx hb dX1_append_17 (by decide) ?_
    refine lv_aload_n hx hb dX1_append_28 rfl (lv_at hl 0 rfl) ?_
    refine lv_aload_n hx hb dX1_append_29 rfl (lv_at hl 1 rfl) ?_
    refine va_put (D := D) (ci := 1) (v := .ref q) (ty := .object "CongestionBench$Parcel") (C := RX1) (T := TX1) (N := 3) hx hb ha inlX1 tyX1 tyX1_ok nmX1 hown hK hP hD hS 0 rfl rfl 1 (by decide) (ha _ kf_X1_15) (fun _ h9 => h9) rfl (by decide +kernel) rfl rfl (Nat.le_of_ble_eq_true rfl) dX1_append_30 (fun H locs hP hD hS => ?_)
    have hP : va_P D vwCl ([(h0, .inr (1, [.ref q, .ref q, .int n]))] ++ va_pl L (pf cJ kd pi bd (va_up af q none) bo)) H := hP
    have hD : va_D A ([(h0, .inr (1, [.ref q, .ref q, .int n]))] ++ va_pl L (pf cJ kd pi bd (va_up af q none) bo)) := hD
    refine lv_aload_n hx hb dX1_append_33 rfl (lv_at hl 0 rfl) ?_
    refine lv_dup hx hb dX1_append_34 rfl ?_
    refine va_get (D := D) (ci := 1) (v := .int n) (C := RX1) (T := TX1) (N := 3) hx hb ha inlX1 hown hK hP 0 rfl rfl 2 (by decide) (ha _ kf_X1_23) (fun _ h9 => h9) rfl dX1_append_35 ?_
    refine lv_iconst (v := 1) hx hb dX1_append_38 (by decide) ?_
    refine lv_iadd hx hb dX1_append_39 ?_
    refine lv_topi (fun x_8 ex_8 => ?_)
    refine va_put (D := D) (ci := 1) (v := .int x_8) (ty := .int) (C := RX1) (T := TX1) (N := 3) hx hb ha inlX1 tyX1 tyX1_ok nmX1 hown hK hP hD hS 0 rfl rfl 2 (by decide) (ha _ kf_X1_23) (fun _ h9 => h9) rfl (by decide +kernel) rfl rfl (Nat.le_of_ble_eq_true rfl) dX1_append_40 (fun H locs hP hD hS => ?_)
    have hP : va_P D vwCl ([(h0, .inr (1, [.ref q, .ref q, .int x_8]))] ++ va_pl L (pf cJ kd pi bd (va_up af q none) bo)) H := hP
    have hD : va_D A ([(h0, .inr (1, [.ref q, .ref q, .int x_8]))] ++ va_pl L (pf cJ kd pi bd (va_up af q none) bo)) := hD
    subst ex_8
    have hP9 : va_P D vwCl ([(h0, .inr (1, [va_rf (ap_fi none fi q), va_rf (some q), .int (n + 1)]))] ++ va_pl L (pf cJ kd pi bd (ap_af af none q) bo)) _ := hP
    have hD9 : va_D A ([(h0, .inr (1, [va_rf (ap_fi none fi q), va_rf (some q), .int (n + 1)]))] ++ va_pl L (pf cJ kd pi bd (ap_af af none q) bo)) := hD
    exact W.vret hx hb hr (fun t ht hW => ⟨⟨(), rfl, trivial, ⟨by rw [ht]; exact hP9, va_K.moved hW.alike hK, hD9⟩⟩, hS.F ht⟩) hS.2.2 dX1_append_43
  | some z_7 =>
    have hP : va_P D vwCl ([(h0, .inr (1, [va_rf fi, .ref z_7, .int n]))] ++ va_pl L (pf cJ kd pi bd (va_up af q none) bo)) _ := hP
    have hD : va_D A ([(h0, .inr (1, [va_rf fi, .ref z_7, .int n]))] ++ va_pl L (pf cJ kd pi bd (va_up af q none) bo)) := hD
    have m_z_7 := (hla z_7 rfl).1
    have k_z_7 := (hla z_7 rfl).2
    refine lv_ifnonnull (tgt := 20) hx hb dX1_append_9 (by decide) ?_
    refine lv_aload_n hx hb dX1_append_20 rfl (lv_at hl 0 rfl) ?_
    refine va_get (D := D) (ci := 1) (v := .ref z_7) (C := RX1) (T := TX1) (N := 3) hx hb ha inlX1 hown hK hP 0 rfl rfl 1 (by decide) (ha _ kf_X1_15) (fun _ h9 => h9) rfl dX1_append_21 ?_
    refine lv_aload_n hx hb dX1_append_24 rfl (lv_at hl 1 rfl) ?_
    obtain ⟨k_9, hk_9⟩ := va_pl_get (X := [(h0, .inr (1, [va_rf fi, .ref z_7, .int n]))]) (f := pf cJ kd pi bd (va_up af q none) bo) m_z_7
    refine va_putN (D := D) (ci := 5) (v := .ref q) (ty := .object "CongestionBench$Parcel") (C := RX5) (T := TX5) (N := 7) hx hb ha inlX5 tyX5 tyX5_ok nmX5 hown hK hP hD hS k_9 (hk_9.trans (congrArg (fun z => some (z_7, z)) (pf_p k_z_7))) rfl 6 (by decide) (va_Nw.use rfl (hN.f RX1 9 "CongestionBench$Parcel" "after" "LCongestionBench$Parcel;" "CongestionBench" (by decide +kernel))) (fun _ h9 => h9) rfl (by decide +kernel) rfl rfl (Nat.le_of_ble_eq_true rfl) dX1_append_25 (fun H locs hP1 hD1 hS => ?_)
    have hP : va_P D vwCl ([(h0, .inr (1, [va_rf fi, .ref z_7, .int n]))] ++ va_pl L (pf cJ kd pi bd (va_up (va_up af q none) z_7 (some q)) bo)) H := by rw [← pf_u6 k_z_7, ← va_pl_set hD m_z_7 hk_9]; exact hP1
    have hD : va_D A ([(h0, .inr (1, [va_rf fi, .ref z_7, .int n]))] ++ va_pl L (pf cJ kd pi bd (va_up (va_up af q none) z_7 (some q)) bo)) := by rw [← pf_u6 k_z_7, ← va_pl_set hD m_z_7 hk_9]; exact hD1
    refine lv_aload_n hx hb dX1_append_28 rfl (lv_at hl 0 rfl) ?_
    refine lv_aload_n hx hb dX1_append_29 rfl (lv_at hl 1 rfl) ?_
    refine va_put (D := D) (ci := 1) (v := .ref q) (ty := .object "CongestionBench$Parcel") (C := RX1) (T := TX1) (N := 3) hx hb ha inlX1 tyX1 tyX1_ok nmX1 hown hK hP hD hS 0 rfl rfl 1 (by decide) (ha _ kf_X1_15) (fun _ h9 => h9) rfl (by decide +kernel) rfl rfl (Nat.le_of_ble_eq_true rfl) dX1_append_30 (fun H locs hP hD hS => ?_)
    have hP : va_P D vwCl ([(h0, .inr (1, [va_rf fi, .ref q, .int n]))] ++ va_pl L (pf cJ kd pi bd (va_up (va_up af q none) z_7 (some q)) bo)) H := hP
    have hD : va_D A ([(h0, .inr (1, [va_rf fi, .ref q, .int n]))] ++ va_pl L (pf cJ kd pi bd (va_up (va_up af q none) z_7 (some q)) bo)) := hD
    refine lv_aload_n hx hb dX1_append_33 rfl (lv_at hl 0 rfl) ?_
    refine lv_dup hx hb dX1_append_34 rfl ?_
    refine va_get (D := D) (ci := 1) (v := .int n) (C := RX1) (T := TX1) (N := 3) hx hb ha inlX1 hown hK hP 0 rfl rfl 2 (by decide) (ha _ kf_X1_23) (fun _ h9 => h9) rfl dX1_append_35 ?_
    refine lv_iconst (v := 1) hx hb dX1_append_38 (by decide) ?_
    refine lv_iadd hx hb dX1_append_39 ?_
    refine lv_topi (fun x_10 ex_10 => ?_)
    refine va_put (D := D) (ci := 1) (v := .int x_10) (ty := .int) (C := RX1) (T := TX1) (N := 3) hx hb ha inlX1 tyX1 tyX1_ok nmX1 hown hK hP hD hS 0 rfl rfl 2 (by decide) (ha _ kf_X1_23) (fun _ h9 => h9) rfl (by decide +kernel) rfl rfl (Nat.le_of_ble_eq_true rfl) dX1_append_40 (fun H locs hP hD hS => ?_)
    have hP : va_P D vwCl ([(h0, .inr (1, [va_rf fi, .ref q, .int x_10]))] ++ va_pl L (pf cJ kd pi bd (va_up (va_up af q none) z_7 (some q)) bo)) H := hP
    have hD : va_D A ([(h0, .inr (1, [va_rf fi, .ref q, .int x_10]))] ++ va_pl L (pf cJ kd pi bd (va_up (va_up af q none) z_7 (some q)) bo)) := hD
    subst ex_10
    have hP9 : va_P D vwCl ([(h0, .inr (1, [va_rf (ap_fi (some z_7) fi q), va_rf (some q), .int (n + 1)]))] ++ va_pl L (pf cJ kd pi bd (ap_af af (some z_7) q) bo)) _ := hP
    have hD9 : va_D A ([(h0, .inr (1, [va_rf (ap_fi (some z_7) fi q), va_rf (some q), .int (n + 1)]))] ++ va_pl L (pf cJ kd pi bd (ap_af af (some z_7) q) bo)) := hD
    exact W.vret hx hb hr (fun t ht hW => ⟨⟨(), rfl, trivial, ⟨by rw [ht]; exact hP9, va_K.moved hW.alike hK, hD9⟩⟩, hS.F ht⟩) hS.2.2 dX1_append_43

set_option maxHeartbeats 4000000 in
set_option maxRecDepth 100000 in
theorem s_firstDue (l : Launch) (D : va_G) (cI cJ cZ cO : ClassId) (sz : Nat) (h0 : Nat) (L : List Nat) (kd : Nat → Bool) (pi : Nat → Nat → Int32) (bd : Nat → Nat) (af : Nat → Option Nat) (bo : Nat → Nat → Int64) (fi la : Option Nat) (n : Int32) (hfi : ∀ z, fi = some z → z ∈ L ∧ kd z = false) : Met l yX1_firstDue (wa yX1_firstDue cX1_firstDue 1 (some .int)) ({ frames := 0, cells := 0, slots := 0, locals := 0 }) (va_Pc [.ref h0] (pw_s D cI cJ cZ cO sz ([(h0, .inr (1, [va_rf fi, va_rf la, .int n]))] ++ va_pl L (pf cJ kd pi bd af bo)))) (va_Qi (fun (r : Int32) (_ : Unit) => True) (fun (_ : Unit) (t : State) => pw_t D cI cJ cZ cO (va_A ([(h0, .inr (1, [va_rf fi, va_rf la, .int n]))] ++ va_pl L (pf cJ kd pi bd af bo)) sz) ([(h0, .inr (1, [va_rf fi, va_rf la, .int n]))] ++ va_pl L (pf cJ kd pi bd af bo)) t) (va_A ([(h0, .inr (1, [va_rf fi, va_rf la, .int n]))] ++ va_pl L (pf cJ kd pi bd af bo)) sz)) 0 0 (va_A ([(h0, .inr (1, [va_rf fi, va_rf la, .int n]))] ++ va_pl L (pf cJ kd pi bd af bo)) sz) := by
  refine Met.ofW (cc := cX1_firstDue) (maxL := 1) (ret := (some .int)) (by decide) rfl ?_
  intro p e s m args below meth c s₁ B hml hv
  obtain ⟨rfl, hsz, hP, hK, hD0, hN⟩ := hv
  have hx := B.exec
  have hb := B.bytes
  have hr := B.returns
  have hts := atoms_spec (ws := (wa yX1_firstDue cX1_firstDue 1 (some .int))) B.pre
  have ha : ∀ w ∈ wsL_law, w.before _ s = true := fun w h => hts w (List.mem_cons_of_mem _ h)
  have hown : s.vm.findClass RX1 = some m.cls := findClass_of_methodNamed B.named
  have hlocks := B.notSynchronized
  subst hsz
  have hD := hD0.self (sz := s.heap.size)
  generalize hAe : va_A ([(h0, .inr (1, [va_rf fi, va_rf la, .int n]))] ++ va_pl L (pf cJ kd pi bd af bo)) s.heap.size = A at hD ⊢
  have hA : ∀ q : Nat, s.heap.size ≤ q → A q := fun q h => by rw [← hAe]; exact Or.inr h
  have hS : va_S A s.heap s.heap [] := va_S.rf
  have hP : va_P D vwCl ([(h0, .inr (1, [va_rf fi, va_rf la, .int n]))] ++ va_pl L (pf cJ kd pi bd af bo)) s.heap := hP
  have hl := lv_entry ([.ref h0]) (n := 1) (Nat.le_of_ble_eq_true rfl)
  rw [lg_entry_eq]
  generalize (lg_sl ([.ref h0]) ++ List.replicate (1 - (lg_sl ([.ref h0])).length) Slot.unset).toArray = ls at hl ⊢
  have hl : lv_has ls 1 [(0, .ref h0)] := hl
  -- from the entry
  refine lv_aload_n hx hb dX1_firstDue_0 rfl (lv_at hl 0 rfl) ?_
  refine va_get (D := D) (ci := 1) (v := va_rf fi) (C := RX1) (T := TX1) (N := 3) hx hb ha inlX1 hown hK hP 0 rfl rfl 0 (by decide) (ha _ kf_X1_20) (fun _ h9 => h9) rfl dX1_firstDue_1 ?_
  cases fi with
  | none =>
    have hP : va_P D vwCl ([(h0, .inr (1, [.null, va_rf la, .int n]))] ++ va_pl L (pf cJ kd pi bd af bo)) _ := hP
    have hD : va_D A ([(h0, .inr (1, [.null, va_rf la, .int n]))] ++ va_pl L (pf cJ kd pi bd af bo)) := hD
    refine lv_ifnonnullN hx hb dX1_firstDue_4 ?_
    refine lv_ldc (v := 2147483647) hx hb hown (ha _ kk_X1_42) dX1_firstDue_7 ?_
    refine lv_goto (tgt := 19) hx hb dX1_firstDue_9 (by decide) ?_
    have hP9 : va_P D vwCl ([(h0, .inr (1, [va_rf none, va_rf la, .int n]))] ++ va_pl L (pf cJ kd pi bd af bo)) _ := hP
    have hD9 : va_D A ([(h0, .inr (1, [va_rf none, va_rf la, .int n]))] ++ va_pl L (pf cJ kd pi bd af bo)) := hD
    exact W.iret (v := 2147483647) hx hb hr (fun t ht hW => ⟨⟨2147483647, (), rfl, trivial, ⟨by rw [ht]; exact hP9, va_K.moved hW.alike hK, hD9⟩⟩, hS.F ht⟩) hS.2.2 dX1_firstDue_19
  | some z_4 =>
    have hP : va_P D vwCl ([(h0, .inr (1, [.ref z_4, va_rf la, .int n]))] ++ va_pl L (pf cJ kd pi bd af bo)) _ := hP
    have hD : va_D A ([(h0, .inr (1, [.ref z_4, va_rf la, .int n]))] ++ va_pl L (pf cJ kd pi bd af bo)) := hD
    have m_z_4 := (hfi z_4 rfl).1
    have k_z_4 := (hfi z_4 rfl).2
    refine lv_ifnonnull (tgt := 12) hx hb dX1_firstDue_4 (by decide) ?_
    refine lv_aload_n hx hb dX1_firstDue_12 rfl (lv_at hl 0 rfl) ?_
    refine va_get (D := D) (ci := 1) (v := .ref z_4) (C := RX1) (T := TX1) (N := 3) hx hb ha inlX1 hown hK hP 0 rfl rfl 0 (by decide) (ha _ kf_X1_20) (fun _ h9 => h9) rfl dX1_firstDue_13 ?_
    obtain ⟨k_5, hk_5⟩ := va_pl_get (X := [(h0, .inr (1, [.ref z_4, va_rf la, .int n]))]) (f := pf cJ kd pi bd af bo) m_z_4
    refine va_getN (D := D) (ci := 5) (v := .int (pi 0 z_4)) (C := RX5) (T := TX5) (N := 7) hx hb ha inlX5 hown hK hP k_5 (hk_5.trans (congrArg (fun z => some (z_4, z)) (pf_p k_z_4))) rfl 0 (by decide) (va_Nw.use rfl (hN.f RX1 27 "CongestionBench$Parcel" "due" "I" "CongestionBench" (by decide +kernel))) (fun _ h9 => h9) rfl dX1_firstDue_16 ?_
    refine lv_topi (fun x_6 ex_6 => ?_)
    have hP9 : va_P D vwCl ([(h0, .inr (1, [va_rf (some z_4), va_rf la, .int n]))] ++ va_pl L (pf cJ kd pi bd af bo)) _ := hP
    have hD9 : va_D A ([(h0, .inr (1, [va_rf (some z_4), va_rf la, .int n]))] ++ va_pl L (pf cJ kd pi bd af bo)) := hD
    exact W.iret (v := x_6) hx hb hr (fun t ht hW => ⟨⟨x_6, (), rfl, trivial, ⟨by rw [ht]; exact hP9, va_K.moved hW.alike hK, hD9⟩⟩, hS.F ht⟩) hS.2.2 dX1_firstDue_19

set_option maxHeartbeats 4000000 in
set_option maxRecDepth 100000 in
theorem s_takeFirst (l : Launch) (D : va_G) (cI cJ cZ cO : ClassId) (sz : Nat) (h0 : Nat) (L : List Nat) (kd : Nat → Bool) (pi : Nat → Nat → Int32) (bd : Nat → Nat) (af : Nat → Option Nat) (bo : Nat → Nat → Int64) (fi la : Option Nat) (n : Int32) (hfi : ∀ z, fi = some z → z ∈ L ∧ kd z = false) (hcl : ∀ a, fi = some a → ∀ b, af a = some b → b ∈ L ∧ kd b = false) : Met l yX1_takeFirst (wa yX1_takeFirst cX1_takeFirst 2 (some (.object "CongestionBench$Parcel"))) ({ frames := 0, cells := 0, slots := 0, locals := 0 }) (va_Pc [.ref h0] (pw_s D cI cJ cZ cO sz ([(h0, .inr (1, [va_rf fi, va_rf la, .int n]))] ++ va_pl L (pf cJ kd pi bd af bo)))) (va_Qq (fun (r : Option Nat) (_ : Unit) => r = fi) (fun (_ : Unit) (t : State) => pw_t D cI cJ cZ cO (va_A ([(h0, .inr (1, [va_rf fi, va_rf la, .int n]))] ++ va_pl L (pf cJ kd pi bd af bo)) sz) ([(h0, .inr (1, [va_rf (tk_fi af fi), va_rf (tk_la af fi la), .int (tk_n fi n)]))] ++ va_pl L (pf cJ kd pi bd (tk_af af fi) bo)) t) (va_A ([(h0, .inr (1, [va_rf fi, va_rf la, .int n]))] ++ va_pl L (pf cJ kd pi bd af bo)) sz)) 0 0 (va_A ([(h0, .inr (1, [va_rf fi, va_rf la, .int n]))] ++ va_pl L (pf cJ kd pi bd af bo)) sz) := by
  refine Met.ofW (cc := cX1_takeFirst) (maxL := 2) (ret := (some (.object "CongestionBench$Parcel"))) (by decide) rfl ?_
  intro p e s m args below meth c s₁ B hml hv
  obtain ⟨rfl, hsz, hP, hK, hD0, hN⟩ := hv
  have hx := B.exec
  have hb := B.bytes
  have hr := B.returns
  have hts := atoms_spec (ws := (wa yX1_takeFirst cX1_takeFirst 2 (some (.object "CongestionBench$Parcel")))) B.pre
  have ha : ∀ w ∈ wsL_law, w.before _ s = true := fun w h => hts w (List.mem_cons_of_mem _ h)
  have hown : s.vm.findClass RX1 = some m.cls := findClass_of_methodNamed B.named
  have hlocks := B.notSynchronized
  subst hsz
  have hD := hD0.self (sz := s.heap.size)
  generalize hAe : va_A ([(h0, .inr (1, [va_rf fi, va_rf la, .int n]))] ++ va_pl L (pf cJ kd pi bd af bo)) s.heap.size = A at hD ⊢
  have hA : ∀ q : Nat, s.heap.size ≤ q → A q := fun q h => by rw [← hAe]; exact Or.inr h
  have hS : va_S A s.heap s.heap [] := va_S.rf
  have hP : va_P D vwCl ([(h0, .inr (1, [va_rf fi, va_rf la, .int n]))] ++ va_pl L (pf cJ kd pi bd af bo)) s.heap := hP
  have hl := lv_entry ([.ref h0]) (n := 2) (Nat.le_of_ble_eq_true rfl)
  rw [lg_entry_eq]
  generalize (lg_sl ([.ref h0]) ++ List.replicate (2 - (lg_sl ([.ref h0])).length) Slot.unset).toArray = ls at hl ⊢
  have hl : lv_has ls 2 [(0, .ref h0)] := hl
  -- from the entry
  refine lv_aload_n hx hb dX1_takeFirst_0 rfl (lv_at hl 0 rfl) ?_
  refine va_get (D := D) (ci := 1) (v := va_rf fi) (C := RX1) (T := TX1) (N := 3) hx hb ha inlX1 hown hK hP 0 rfl rfl 0 (by decide) (ha _ kf_X1_20) (fun _ h9 => h9) rfl dX1_takeFirst_1 ?_
  cases fi with
  | none =>
    have hP : va_P D vwCl ([(h0, .inr (1, [.null, va_rf la, .int n]))] ++ va_pl L (pf cJ kd pi bd af bo)) _ := hP
    have hD : va_D A ([(h0, .inr (1, [.null, va_rf la, .int n]))] ++ va_pl L (pf cJ kd pi bd af bo)) := hD
    refine lv_astore_nN (lv' := [(1, .null), (0, .ref h0)]) hx hb dX1_takeFirst_4 rfl hl (by decide) rfl (fun ls hl => ?_)
    refine lv_aload_nN hx hb dX1_takeFirst_5 rfl (lv_at hl 0 rfl) ?_
    refine lv_ifnullN (tgt := 32) hx hb dX1_takeFirst_6 (by decide) ?_
    refine lv_aload_n hx hb dX1_takeFirst_32 rfl (lv_at hl 1 rfl) ?_
    refine va_get (D := D) (ci := 1) (v := .null) (C := RX1) (T := TX1) (N := 3) hx hb ha inlX1 hown hK hP 0 rfl rfl 0 (by decide) (ha _ kf_X1_20) (fun _ h9 => h9) rfl dX1_takeFirst_33 ?_
    refine lv_ifnonnullN hx hb dX1_takeFirst_36 ?_
    refine lv_aload_n hx hb dX1_takeFirst_39 rfl (lv_at hl 1 rfl) ?_
    refine lv_null hx hb dX1_takeFirst_40 ?_
    refine va_put (D := D) (ci := 1) (v := .null) (ty := .object "CongestionBench$Parcel") (C := RX1) (T := TX1) (N := 3) hx hb ha inlX1 tyX1 tyX1_ok nmX1 hown hK hP hD hS 0 rfl rfl 1 (by decide) (ha _ kf_X1_15) (fun _ h9 => h9) rfl (by decide +kernel) rfl rfl (Nat.le_of_ble_eq_true rfl) dX1_takeFirst_41 (fun H locs hP hD hS => ?_)
    have hP : va_P D vwCl ([(h0, .inr (1, [.null, .null, .int n]))] ++ va_pl L (pf cJ kd pi bd af bo)) H := hP
    have hD : va_D A ([(h0, .inr (1, [.null, .null, .int n]))] ++ va_pl L (pf cJ kd pi bd af bo)) := hD
    refine lv_aload_nN hx hb dX1_takeFirst_44 rfl (lv_at hl 0 rfl) ?_
    have hP9 : va_P D vwCl ([(h0, .inr (1, [va_rf (tk_fi af none), va_rf (tk_la af none la), .int (tk_n none n)]))] ++ va_pl L (pf cJ kd pi bd (tk_af af none) bo)) _ := hP
    have hD9 : va_D A ([(h0, .inr (1, [va_rf (tk_fi af none), va_rf (tk_la af none la), .int (tk_n none n)]))] ++ va_pl L (pf cJ kd pi bd (tk_af af none) bo)) := hD
    exact W.aret (v := .null) hx hb hr (Or.inl ⟨_, rfl⟩) (Or.inl rfl) (fun t ht hW => ⟨⟨none, (), rfl, rfl, ⟨by rw [ht]; exact hP9, va_K.moved hW.alike hK, hD9⟩⟩, hS.F ht⟩) hS.2.2 dX1_takeFirst_45
  | some z_9 =>
    have hP : va_P D vwCl ([(h0, .inr (1, [.ref z_9, va_rf la, .int n]))] ++ va_pl L (pf cJ kd pi bd af bo)) _ := hP
    have hD : va_D A ([(h0, .inr (1, [.ref z_9, va_rf la, .int n]))] ++ va_pl L (pf cJ kd pi bd af bo)) := hD
    have m_z_9 := (hfi z_9 rfl).1
    have k_z_9 := (hfi z_9 rfl).2
    refine lv_astore_n (lv' := [(1, .ref z_9), (0, .ref h0)]) hx hb dX1_takeFirst_4 rfl hl (by decide) rfl (fun ls hl => ?_)
    refine lv_aload_n hx hb dX1_takeFirst_5 rfl (lv_at hl 0 rfl) ?_
    refine lv_ifnull hx hb dX1_takeFirst_6 ?_
    refine lv_aload_n hx hb dX1_takeFirst_9 rfl (lv_at hl 1 rfl) ?_
    refine lv_aload_n hx hb dX1_takeFirst_10 rfl (lv_at hl 0 rfl) ?_
    obtain ⟨k_10, hk_10⟩ := va_pl_get (X := [(h0, .inr (1, [.ref z_9, va_rf la, .int n]))]) (f := pf cJ kd pi bd af bo) m_z_9
    refine va_getN (D := D) (ci := 5) (v := va_rf (af z_9)) (C := RX5) (T := TX5) (N := 7) hx hb ha inlX5 hown hK hP k_10 (hk_10.trans (congrArg (fun z => some (z_9, z)) (pf_p k_z_9))) rfl 6 (by decide) (va_Nw.use rfl (hN.f RX1 9 "CongestionBench$Parcel" "after" "LCongestionBench$Parcel;" "CongestionBench" (by decide +kernel))) (fun _ h9 => h9) rfl dX1_takeFirst_11 ?_
    cases ho_12 : af z_9 with
    | none =>
      refine va_put (D := D) (ci := 1) (v := .null) (ty := .object "CongestionBench$Parcel") (C := RX1) (T := TX1) (N := 3) hx hb ha inlX1 tyX1 tyX1_ok nmX1 hown hK hP hD hS 0 rfl rfl 0 (by decide) (ha _ kf_X1_20) (fun _ h9 => h9) rfl (by decide +kernel) rfl rfl (Nat.le_of_ble_eq_true rfl) dX1_takeFirst_14 (fun H locs hP hD hS => ?_)
      have hP : va_P D vwCl ([(h0, .inr (1, [.null, va_rf la, .int n]))] ++ va_pl L (pf cJ kd pi bd af bo)) H := hP
      have hD : va_D A ([(h0, .inr (1, [.null, va_rf la, .int n]))] ++ va_pl L (pf cJ kd pi bd af bo)) := hD
      refine lv_aload_n hx hb dX1_takeFirst_17 rfl (lv_at hl 0 rfl) ?_
      refine lv_null hx hb dX1_takeFirst_18 ?_
      obtain ⟨k_13, hk_13⟩ := va_pl_get (X := [(h0, .inr (1, [.null, va_rf la, .int n]))]) (f := pf cJ kd pi bd af bo) m_z_9
      refine va_putN (D := D) (ci := 5) (v := .null) (ty := .object "CongestionBench$Parcel") (C := RX5) (T := TX5) (N := 7) hx hb ha inlX5 tyX5 tyX5_ok nmX5 hown hK hP hD hS k_13 (hk_13.trans (congrArg (fun z => some (z_9, z)) (pf_p k_z_9))) rfl 6 (by decide) (va_Nw.use rfl (hN.f RX1 9 "CongestionBench$Parcel" "after" "LCongestionBench$Parcel;" "CongestionBench" (by decide +kernel))) (fun _ h9 => h9) rfl (by decide +kernel) rfl rfl (Nat.le_of_ble_eq_true rfl) dX1_takeFirst_19 (fun H locs hP1 hD1 hS => ?_)
      have hP : va_P D vwCl ([(h0, .inr (1, [.null, va_rf la, .int n]))] ++ va_pl L (pf cJ kd pi bd (va_up af z_9 none) bo)) H := by rw [← pf_u6 k_z_9, ← va_pl_set hD m_z_9 hk_13]; exact hP1
      have hD : va_D A ([(h0, .inr (1, [.null, va_rf la, .int n]))] ++ va_pl L (pf cJ kd pi bd (va_up af z_9 none) bo)) := by rw [← pf_u6 k_z_9, ← va_pl_set hD m_z_9 hk_13]; exact hD1
      refine lv_aload_n hx hb dX1_takeFirst_22 rfl (lv_at hl 1 rfl) ?_
      refine lv_dup hx hb dX1_takeFirst_23 rfl ?_
      refine va_get (D := D) (ci := 1) (v := .int n) (C := RX1) (T := TX1) (N := 3) hx hb ha inlX1 hown hK hP 0 rfl rfl 2 (by decide) (ha _ kf_X1_23) (fun _ h9 => h9) rfl dX1_takeFirst_24 ?_
      refine lv_iconst (v := 1) hx hb dX1_takeFirst_27 (by decide) ?_
      refine lv_isub hx hb dX1_takeFirst_28 ?_
      refine lv_topi (fun x_14 ex_14 => ?_)
      refine va_put (D := D) (ci := 1) (v := .int x_14) (ty := .int) (C := RX1) (T := TX1) (N := 3) hx hb ha inlX1 tyX1 tyX1_ok nmX1 hown hK hP hD hS 0 rfl rfl 2 (by decide) (ha _ kf_X1_23) (fun _ h9 => h9) rfl (by decide +kernel) rfl rfl (Nat.le_of_ble_eq_true rfl) dX1_takeFirst_29 (fun H locs hP hD hS => ?_)
      have hP : va_P D vwCl ([(h0, .inr (1, [.null, va_rf la, .int x_14]))] ++ va_pl L (pf cJ kd pi bd (va_up af z_9 none) bo)) H := hP
      have hD : va_D A ([(h0, .inr (1, [.null, va_rf la, .int x_14]))] ++ va_pl L (pf cJ kd pi bd (va_up af z_9 none) bo)) := hD
      refine lv_aload_n hx hb dX1_takeFirst_32 rfl (lv_at hl 1 rfl) ?_
      refine va_get (D := D) (ci := 1) (v := .null) (C := RX1) (T := TX1) (N := 3) hx hb ha inlX1 hown hK hP 0 rfl rfl 0 (by decide) (ha _ kf_X1_20) (fun _ h9 => h9) rfl dX1_takeFirst_33 ?_
      refine lv_ifnonnullN hx hb dX1_takeFirst_36 ?_
      refine lv_aload_n hx hb dX1_takeFirst_39 rfl (lv_at hl 1 rfl) ?_
      refine lv_null hx hb dX1_takeFirst_40 ?_
      refine va_put (D := D) (ci := 1) (v := .null) (ty := .object "CongestionBench$Parcel") (C := RX1) (T := TX1) (N := 3) hx hb ha inlX1 tyX1 tyX1_ok nmX1 hown hK hP hD hS 0 rfl rfl 1 (by decide) (ha _ kf_X1_15) (fun _ h9 => h9) rfl (by decide +kernel) rfl rfl (Nat.le_of_ble_eq_true rfl) dX1_takeFirst_41 (fun H locs hP hD hS => ?_)
      have hP : va_P D vwCl ([(h0, .inr (1, [.null, .null, .int x_14]))] ++ va_pl L (pf cJ kd pi bd (va_up af z_9 none) bo)) H := hP
      have hD : va_D A ([(h0, .inr (1, [.null, .null, .int x_14]))] ++ va_pl L (pf cJ kd pi bd (va_up af z_9 none) bo)) := hD
      refine lv_aload_n hx hb dX1_takeFirst_44 rfl (lv_at hl 0 rfl) ?_
      subst ex_14
      have hP9 : va_P D vwCl ([(h0, .inr (1, [va_rf (tk_fi af (some z_9)), va_rf (tk_la af (some z_9) la), .int (tk_n (some z_9) n)]))] ++ va_pl L (pf cJ kd pi bd (tk_af af (some z_9)) bo)) _ := (by simp only [tk_fi, tk_la, tk_n, tk_af, ho_12]; exact hP)
      have hD9 : va_D A ([(h0, .inr (1, [va_rf (tk_fi af (some z_9)), va_rf (tk_la af (some z_9) la), .int (tk_n (some z_9) n)]))] ++ va_pl L (pf cJ kd pi bd (tk_af af (some z_9)) bo)) := (by simp only [tk_fi, tk_la, tk_n, tk_af, ho_12]; exact hD)
      exact W.aret (v := .ref z_9) hx hb hr (Or.inl ⟨_, rfl⟩) (Or.inr ⟨_, rfl⟩) (fun t ht hW => ⟨⟨(some z_9), (), rfl, rfl, ⟨by rw [ht]; exact hP9, va_K.moved hW.alike hK, hD9⟩⟩, hS.F ht⟩) hS.2.2 dX1_takeFirst_45
    | some z_11 =>
      have m_z_11 := (hcl z_9 rfl z_11 ho_12).1
      have k_z_11 := (hcl z_9 rfl z_11 ho_12).2
      refine va_put (D := D) (ci := 1) (v := .ref z_11) (ty := .object "CongestionBench$Parcel") (C := RX1) (T := TX1) (N := 3) hx hb ha inlX1 tyX1 tyX1_ok nmX1 hown hK hP hD hS 0 rfl rfl 0 (by decide) (ha _ kf_X1_20) (fun _ h9 => h9) rfl (by decide +kernel) rfl rfl (Nat.le_of_ble_eq_true rfl) dX1_takeFirst_14 (fun H locs hP hD hS => ?_)
      have hP : va_P D vwCl ([(h0, .inr (1, [.ref z_11, va_rf la, .int n]))] ++ va_pl L (pf cJ kd pi bd af bo)) H := hP
      have hD : va_D A ([(h0, .inr (1, [.ref z_11, va_rf la, .int n]))] ++ va_pl L (pf cJ kd pi bd af bo)) := hD
      refine lv_aload_n hx hb dX1_takeFirst_17 rfl (lv_at hl 0 rfl) ?_
      refine lv_null hx hb dX1_takeFirst_18 ?_
      obtain ⟨k_15, hk_15⟩ := va_pl_get (X := [(h0, .inr (1, [.ref z_11, va_rf la, .int n]))]) (f := pf cJ kd pi bd af bo) m_z_9
      refine va_putN (D := D) (ci := 5) (v := .null) (ty := .object "CongestionBench$Parcel") (C := RX5) (T := TX5) (N := 7) hx hb ha inlX5 tyX5 tyX5_ok nmX5 hown hK hP hD hS k_15 (hk_15.trans (congrArg (fun z => some (z_9, z)) (pf_p k_z_9))) rfl 6 (by decide) (va_Nw.use rfl (hN.f RX1 9 "CongestionBench$Parcel" "after" "LCongestionBench$Parcel;" "CongestionBench" (by decide +kernel))) (fun _ h9 => h9) rfl (by decide +kernel) rfl rfl (Nat.le_of_ble_eq_true rfl) dX1_takeFirst_19 (fun H locs hP1 hD1 hS => ?_)
      have hP : va_P D vwCl ([(h0, .inr (1, [.ref z_11, va_rf la, .int n]))] ++ va_pl L (pf cJ kd pi bd (va_up af z_9 none) bo)) H := by rw [← pf_u6 k_z_9, ← va_pl_set hD m_z_9 hk_15]; exact hP1
      have hD : va_D A ([(h0, .inr (1, [.ref z_11, va_rf la, .int n]))] ++ va_pl L (pf cJ kd pi bd (va_up af z_9 none) bo)) := by rw [← pf_u6 k_z_9, ← va_pl_set hD m_z_9 hk_15]; exact hD1
      refine lv_aload_n hx hb dX1_takeFirst_22 rfl (lv_at hl 1 rfl) ?_
      refine lv_dup hx hb dX1_takeFirst_23 rfl ?_
      refine va_get (D := D) (ci := 1) (v := .int n) (C := RX1) (T := TX1) (N := 3) hx hb ha inlX1 hown hK hP 0 rfl rfl 2 (by decide) (ha _ kf_X1_23) (fun _ h9 => h9) rfl dX1_takeFirst_24 ?_
      refine lv_iconst (v := 1) hx hb dX1_takeFirst_27 (by decide) ?_
      refine lv_isub hx hb dX1_takeFirst_28 ?_
      refine lv_topi (fun x_16 ex_16 => ?_)
      refine va_put (D := D) (ci := 1) (v := .int x_16) (ty := .int) (C := RX1) (T := TX1) (N := 3) hx hb ha inlX1 tyX1 tyX1_ok nmX1 hown hK hP hD hS 0 rfl rfl 2 (by decide) (ha _ kf_X1_23) (fun _ h9 => h9) rfl (by decide +kernel) rfl rfl (Nat.le_of_ble_eq_true rfl) dX1_takeFirst_29 (fun H locs hP hD hS => ?_)
      have hP : va_P D vwCl ([(h0, .inr (1, [.ref z_11, va_rf la, .int x_16]))] ++ va_pl L (pf cJ kd pi bd (va_up af z_9 none) bo)) H := hP
      have hD : va_D A ([(h0, .inr (1, [.ref z_11, va_rf la, .int x_16]))] ++ va_pl L (pf cJ kd pi bd (va_up af z_9 none) bo)) := hD
      refine lv_aload_n hx hb dX1_takeFirst_32 rfl (lv_at hl 1 rfl) ?_
      refine va_get (D := D) (ci := 1) (v := .ref z_11) (C := RX1) (T := TX1) (N := 3) hx hb ha inlX1 hown hK hP 0 rfl rfl 0 (by decide) (ha _ kf_X1_20) (fun _ h9 => h9) rfl dX1_takeFirst_33 ?_
      refine lv_ifnonnull (tgt := 44) hx hb dX1_takeFirst_36 (by decide) ?_
      refine lv_aload_n hx hb dX1_takeFirst_44 rfl (lv_at hl 0 rfl) ?_
      subst ex_16
      have hP9 : va_P D vwCl ([(h0, .inr (1, [va_rf (tk_fi af (some z_9)), va_rf (tk_la af (some z_9) la), .int (tk_n (some z_9) n)]))] ++ va_pl L (pf cJ kd pi bd (tk_af af (some z_9)) bo)) _ := (by simp only [tk_fi, tk_la, tk_n, tk_af, ho_12]; exact hP)
      have hD9 : va_D A ([(h0, .inr (1, [va_rf (tk_fi af (some z_9)), va_rf (tk_la af (some z_9) la), .int (tk_n (some z_9) n)]))] ++ va_pl L (pf cJ kd pi bd (tk_af af (some z_9)) bo)) := (by simp only [tk_fi, tk_la, tk_n, tk_af, ho_12]; exact hD)
      exact W.aret (v := .ref z_9) hx hb hr (Or.inl ⟨_, rfl⟩) (Or.inr ⟨_, rfl⟩) (fun t ht hW => ⟨⟨(some z_9), (), rfl, rfl, ⟨by rw [ht]; exact hP9, va_K.moved hW.alike hK, hD9⟩⟩, hS.F ht⟩) hS.2.2 dX1_takeFirst_45

set_option maxHeartbeats 4000000 in
set_option maxRecDepth 100000 in
theorem s_takeDue (l : Launch) (D : va_G) (cI cJ cZ cO : ClassId) (sz : Nat) (h0 : Nat) (L : List Nat) (kd : Nat → Bool) (pi : Nat → Nat → Int32) (bd : Nat → Nat) (af : Nat → Option Nat) (bo : Nat → Nat → Int64) (fi la : Option Nat) (n : Int32) (w : Int32) (hfi : ∀ z, fi = some z → z ∈ L ∧ kd z = false) (hcl : ∀ a, fi = some a → ∀ b, af a = some b → b ∈ L ∧ kd b = false) : Met l yX1_takeDue (wa yX1_takeDue cX1_takeDue 2 (some (.object "CongestionBench$Parcel"))) ({ frames := 1, cells := 0, slots := 0, locals := 21 }) (va_Pc [.ref h0, .int w] (pw_s D cI cJ cZ cO sz ([(h0, .inr (1, [va_rf fi, va_rf la, .int n]))] ++ va_pl L (pf cJ kd pi bd af bo)))) (va_Qq (fun (r : Option Nat) (ub : Bool) => r = cond ub fi none) (fun (ub : Bool) (t : State) => pw_t D cI cJ cZ cO (va_A ([(h0, .inr (1, [va_rf fi, va_rf la, .int n]))] ++ va_pl L (pf cJ kd pi bd af bo)) sz) ([(h0, .inr (1, [va_rf (cond ub (tk_fi af fi) fi), va_rf (cond ub (tk_la af fi la) la), .int (cond ub (tk_n fi n) n)]))] ++ va_pl L (pf cJ kd pi bd (cond ub (tk_af af fi) af) bo)) t) (va_A ([(h0, .inr (1, [va_rf fi, va_rf la, .int n]))] ++ va_pl L (pf cJ kd pi bd af bo)) sz)) 0 0 (va_A ([(h0, .inr (1, [va_rf fi, va_rf la, .int n]))] ++ va_pl L (pf cJ kd pi bd af bo)) sz) := by
  refine Met.ofW (cc := cX1_takeDue) (maxL := 2) (ret := (some (.object "CongestionBench$Parcel"))) (by decide) rfl ?_
  intro p e s m args below meth c s₁ B hml hv
  obtain ⟨rfl, hsz, hP, hK, hD0, hN⟩ := hv
  have hx := B.exec
  have hb := B.bytes
  have hr := B.returns
  have hts := atoms_spec (ws := (wa yX1_takeDue cX1_takeDue 2 (some (.object "CongestionBench$Parcel")))) B.pre
  have ha : ∀ w ∈ wsL_law, w.before _ s = true := fun w h => hts w (List.mem_cons_of_mem _ h)
  have hown : s.vm.findClass RX1 = some m.cls := findClass_of_methodNamed B.named
  have hlocks := B.notSynchronized
  subst hsz
  have hD := hD0.self (sz := s.heap.size)
  generalize hAe : va_A ([(h0, .inr (1, [va_rf fi, va_rf la, .int n]))] ++ va_pl L (pf cJ kd pi bd af bo)) s.heap.size = A at hD ⊢
  have hA : ∀ q : Nat, s.heap.size ≤ q → A q := fun q h => by rw [← hAe]; exact Or.inr h
  have hS : va_S A s.heap s.heap [] := va_S.rf
  have hP : va_P D vwCl ([(h0, .inr (1, [va_rf fi, va_rf la, .int n]))] ++ va_pl L (pf cJ kd pi bd af bo)) s.heap := hP
  have hl := lv_entry ([.ref h0, .int w]) (n := 2) (Nat.le_of_ble_eq_true rfl)
  rw [lg_entry_eq]
  generalize (lg_sl ([.ref h0, .int w]) ++ List.replicate (2 - (lg_sl ([.ref h0, .int w])).length) Slot.unset).toArray = ls at hl ⊢
  have hl : lv_has ls 2 [(0, .ref h0), (1, .int w)] := hl
  -- from the entry
  refine lv_aload_n hx hb dX1_takeDue_0 rfl (lv_at hl 0 rfl) ?_
  have hPc := hP.part (X := [(h0, .inr (1, [va_rf fi, va_rf la, .int n]))]) (cx := [(h0, .inr (1, [va_rf fi, va_rf la, .int n]))]) (pl := va_pl L (pf cJ kd pi bd af bo)) [0] rfl
  have hDc := hD.part (X := [(h0, .inr (1, [va_rf fi, va_rf la, .int n]))]) (cx := [(h0, .inr (1, [va_rf fi, va_rf la, .int n]))]) (pl := va_pl L (pf cJ kd pi bd af bo)) [0] (by decide) rfl
  have hFc := va_freeP (X := [(h0, .inr (1, [va_rf fi, va_rf la, .int n]))]) (cx := [(h0, .inr (1, [va_rf fi, va_rf la, .int n]))]) (pl := va_pl L (pf cJ kd pi bd af bo)) hD hS hA [0] rfl
  refine va_calli (va_runV (As := []) (rest := []) ⟨hx, hb, hml, hown, ha⟩ (s_firstDue l D cI cJ cZ cO _ h0 L kd pi bd af bo fi la n hfi) (cwV 0 ha (gaV kl_X1_34 km_X1_firstDue ks_X1_firstDue kz_X1 kd_X1_firstDue) rfl rfl rfl (by decide +kernel) ⟨Nat.le_of_ble_eq_true rfl, Nat.le_of_ble_eq_true rfl⟩) ⟨pw_blind, va_recv hK hPc (ci := 1) (q0 := 0) rfl rfl, fun U hU hW => ⟨rfl, pw_start hU hW hPc hK hDc hN⟩⟩ rfl rfl hl.1 rfl (lv_room (Nat.le_of_ble_eq_true rfl)) dX1_takeDue_1 ⟨Nat.le_of_ble_eq_true rfl, Nat.le_of_ble_eq_true rfl⟩) hS (fun q _ h => hFc q h) hFc (fun r_4 u t H1 locs ht hvm hw hB hz1 hk1 hS => ?_)
  obtain ⟨hP1, hK1, hD1⟩ := hB
  rw [ht] at hP1
  obtain ⟨hP, hD⟩ := va_joinP (wr := []) (rx := [(h0, .inr (1, [va_rf fi, va_rf la, .int n]))]) (pl1 := va_pl L (pf cJ kd pi bd af bo)) hP hD [0] [] rfl rfl (by decide) (by decide) hk1 hFc hP1 hD1
  generalize H1 = H at hP hS ⊢
  have hP : va_P D vwCl ([(h0, .inr (1, [va_rf fi, va_rf la, .int n]))] ++ va_pl L (pf cJ kd pi bd af bo)) H := hP
  have hD : va_D A ([(h0, .inr (1, [va_rf fi, va_rf la, .int n]))] ++ va_pl L (pf cJ kd pi bd af bo)) := hD
  refine W.widen (k := 0) (n := 0) (Nat.le_of_ble_eq_true rfl) (Nat.le_of_ble_eq_true rfl) ?_
  have hr_4 := hw
  refine lv_iload_n hx hb dX1_takeDue_4 rfl (lv_at hl 1 rfl) ?_
  refine lv_icmp_gt (tgt := 15) hx hb dX1_takeDue_5 (by decide) (fun c_5 => ?_) (fun c_5 => ?_)
  · refine lv_null hx hb dX1_takeDue_15 ?_
    have hP9 : va_P D vwCl ([(h0, .inr (1, [va_rf (cond false (tk_fi af fi) fi), va_rf (cond false (tk_la af fi la) la), .int (cond false (tk_n fi n) n)]))] ++ va_pl L (pf cJ kd pi bd (cond false (tk_af af fi) af) bo)) _ := hP
    have hD9 : va_D A ([(h0, .inr (1, [va_rf (cond false (tk_fi af fi) fi), va_rf (cond false (tk_la af fi la) la), .int (cond false (tk_n fi n) n)]))] ++ va_pl L (pf cJ kd pi bd (cond false (tk_af af fi) af) bo)) := hD
    exact W.aret (v := .null) hx hb hr (Or.inl ⟨_, rfl⟩) (Or.inl rfl) (fun t ht hW => ⟨⟨none, false, rfl, rfl, ⟨by rw [ht]; exact hP9, va_K.moved hW.alike hK, hD9⟩⟩, hS.F ht⟩) hS.2.2 dX1_takeDue_16
  · refine lv_aload_n hx hb dX1_takeDue_8 rfl (lv_at hl 0 rfl) ?_
    have hPc := hP.part (X := [(h0, .inr (1, [va_rf fi, va_rf la, .int n]))]) (cx := [(h0, .inr (1, [va_rf fi, va_rf la, .int n]))]) (pl := va_pl L (pf cJ kd pi bd af bo)) [0] rfl
    have hDc := hD.part (X := [(h0, .inr (1, [va_rf fi, va_rf la, .int n]))]) (cx := [(h0, .inr (1, [va_rf fi, va_rf la, .int n]))]) (pl := va_pl L (pf cJ kd pi bd af bo)) [0] (by decide) rfl
    have hFc := va_freeP (X := [(h0, .inr (1, [va_rf fi, va_rf la, .int n]))]) (cx := [(h0, .inr (1, [va_rf fi, va_rf la, .int n]))]) (pl := va_pl L (pf cJ kd pi bd af bo)) hD hS hA [0] rfl
    refine va_callq (va_runV (As := []) (rest := []) ⟨hx, hb, hml, hown, ha⟩ (s_takeFirst l D cI cJ cZ cO _ h0 L kd pi bd af bo fi la n hfi hcl) (cwV 0 ha (gaV kl_X1_38 km_X1_takeFirst ks_X1_takeFirst kz_X1 kd_X1_takeFirst) rfl rfl rfl (by decide +kernel) ⟨Nat.le_of_ble_eq_true rfl, Nat.le_of_ble_eq_true rfl⟩) ⟨pw_blind, va_recv hK hPc (ci := 1) (q0 := 0) rfl rfl, fun U hU hW => ⟨rfl, pw_start hU hW hPc hK hDc hN⟩⟩ rfl rfl hl.1 rfl (lv_room (Nat.le_of_ble_eq_true rfl)) dX1_takeDue_9 ⟨Nat.le_of_ble_eq_true rfl, Nat.le_of_ble_eq_true rfl⟩) hS (fun q _ h => hFc q h) hFc (fun r_6 u t H1 locs ht hvm hw hB hz1 hk1 hS => ?_)
    obtain ⟨hP1, hK1, hD1⟩ := hB
    rw [ht] at hP1
    obtain ⟨hP, hD⟩ := va_joinP (wr := []) (rx := [(h0, .inr (1, [va_rf (tk_fi af fi), va_rf (tk_la af fi la), .int (tk_n fi n)]))]) (pl1 := va_pl L (pf cJ kd pi bd (tk_af af fi) bo)) hP hD [0] [] rfl rfl (by decide) (by decide) hk1 hFc hP1 hD1
    generalize H1 = H at hP hS ⊢
    have hP : va_P D vwCl ([(h0, .inr (1, [va_rf (tk_fi af fi), va_rf (tk_la af fi la), .int (tk_n fi n)]))] ++ va_pl L (pf cJ kd pi bd (tk_af af fi) bo)) H := hP
    have hD : va_D A ([(h0, .inr (1, [va_rf (tk_fi af fi), va_rf (tk_la af fi la), .int (tk_n fi n)]))] ++ va_pl L (pf cJ kd pi bd (tk_af af fi) bo)) := hD
    refine W.widen (k := 0) (n := 0) (Nat.le_of_ble_eq_true rfl) (Nat.le_of_ble_eq_true rfl) ?_
    obtain rfl : fi = r_6 := (hw).symm
    refine lv_goto (tgt := 16) hx hb dX1_takeDue_12 (by decide) ?_
    have hP9 : va_P D vwCl ([(h0, .inr (1, [va_rf (cond true (tk_fi af fi) fi), va_rf (cond true (tk_la af fi la) la), .int (cond true (tk_n fi n) n)]))] ++ va_pl L (pf cJ kd pi bd (cond true (tk_af af fi) af) bo)) _ := hP
    have hD9 : va_D A ([(h0, .inr (1, [va_rf (cond true (tk_fi af fi) fi), va_rf (cond true (tk_la af fi la) la), .int (cond true (tk_n fi n) n)]))] ++ va_pl L (pf cJ kd pi bd (cond true (tk_af af fi) af) bo)) := hD
    exact W.aret (v := va_rf fi) hx hb hr (Or.inl ⟨_, rfl⟩) (va_rf_or _) (fun t ht hW => ⟨⟨fi, true, rfl, rfl, ⟨by rw [ht]; exact hP9, va_K.moved hW.alike hK, hD9⟩⟩, hS.F ht⟩) hS.2.2 dX1_takeDue_16
