set_option maxHeartbeats 4000000 in
set_option maxRecDepth 100000 in
theorem s_putByDue (l : Launch) (D : va_G) (cI cJ cZ cO : ClassId) (sz : Nat) (h0 q : Nat) (L : List Nat) (kd : Nat → Bool) (pi : Nat → Nat → Int32) (bd : Nat → Nat) (af : Nat → Option Nat) (bo : Nat → Nat → Int64) (fi la : Option Nat) (n : Int32) (xs : List Nat) (m_q : q ∈ L) (k_q : kd q = false) (hch : ch af fi la xs) (hxs : ∀ x ∈ xs, x ∈ L ∧ kd x = false) (hnd : xs.Nodup) (hq : q ∉ xs) : Met l yX1_putByDue (wa yX1_putByDue cX1_putByDue 3 none) ({ frames := 1, cells := 0, slots := 0, locals := 21 }) (va_Pc [.ref h0, .ref q] (pw_s D cI cJ cZ cO sz ([(h0, .inr (1, [va_rf fi, va_rf la, .int n]))] ++ va_pl L (pf cJ kd pi bd af bo)))) (va_Qv (fun (_ : Unit) => True) (fun (_ : Unit) (t : State) => ∃ (fi2 la2 : Option Nat) (af2 : Nat → Option Nat) (ys zs : List Nat), (xs = ys ++ zs ∧ ch af2 fi2 la2 (ys ++ q :: zs) ∧ (∀ a, a ∉ xs → a ≠ q → af2 a = af a) ∧ ((∀ b, ys.getLast? = some b → pi 0 b ≤ pi 0 q) ∧ ∀ c, zs.head? = some c → pi 0 q < pi 0 c)) ∧ pw_t D cI cJ cZ cO (va_A ([(h0, .inr (1, [va_rf fi, va_rf la, .int n]))] ++ va_pl L (pf cJ kd pi bd af bo)) sz) ([(h0, .inr (1, [va_rf fi2, va_rf la2, .int (n + 1)]))] ++ va_pl L (pf cJ kd pi bd af2 bo)) t) (va_A ([(h0, .inr (1, [va_rf fi, va_rf la, .int n]))] ++ va_pl L (pf cJ kd pi bd af bo)) sz)) 0 0 (va_A ([(h0, .inr (1, [va_rf fi, va_rf la, .int n]))] ++ va_pl L (pf cJ kd pi bd af bo)) sz) := by
  refine Met.ofW (cc := cX1_putByDue) (maxL := 3) (ret := none) (by decide) rfl ?_
  intro p e s m args below meth c s₁ B hml hv
  obtain ⟨rfl, hsz, hP, hK, hD0, hN⟩ := hv
  have hx := B.exec
  have hb := B.bytes
  have hr := B.returns
  have hts := atoms_spec (ws := (wa yX1_putByDue cX1_putByDue 3 none)) B.pre
  have ha : ∀ w ∈ wsL_law, w.before _ s = true := fun w h => hts w (List.mem_cons_of_mem _ h)
  have hown : s.vm.findClass RX1 = some m.cls := findClass_of_methodNamed B.named
  have hlocks := B.notSynchronized
  subst hsz
  have hD := hD0.self (sz := s.heap.size)
  generalize hAe : va_A ([(h0, .inr (1, [va_rf fi, va_rf la, .int n]))] ++ va_pl L (pf cJ kd pi bd af bo)) s.heap.size = A at hD ⊢
  have hA : ∀ q : Nat, s.heap.size ≤ q → A q := fun q h => by rw [← hAe]; exact Or.inr h
  have hS : va_S A s.heap s.heap [] := va_S.rf
  have hP : va_P D vwCl ([(h0, .inr (1, [va_rf fi, va_rf la, .int n]))] ++ va_pl L (pf cJ kd pi bd af bo)) s.heap := hP
  have hl := lv_entry ([.ref h0, .ref q]) (n := 3) (Nat.le_of_ble_eq_true rfl)
  rw [lg_entry_eq]
  generalize (lg_sl ([.ref h0, .ref q]) ++ List.replicate (3 - (lg_sl ([.ref h0, .ref q])).length) Slot.unset).toArray = ls at hl ⊢
  have hl : lv_has ls 3 [(0, .ref h0), (1, .ref q)] := hl
  have hfi : ∀ z, fi = some z → z ∈ L ∧ kd z = false := fun z e => hxs z (List.mem_of_head? (hch.1.symm.trans e))
  have hla : ∀ z, la = some z → z ∈ L ∧ kd z = false := fun z e => hxs z (List.mem_of_getLast? (hch.2.1.symm.trans e))
  have hcl : ∀ a, a ∈ xs → ∀ b, af a = some b → b ∈ L ∧ kd b = false := by
    intro a hm b e
    obtain ⟨ys, zs, hh⟩ := List.append_of_mem hm
    have h5 := lk_at (by rw [← hh]; exact hch.2.2)
    exact hxs b (by rw [hh]; exact List.mem_append_right _ (List.mem_cons_of_mem _ (List.mem_of_head? (h5.symm.trans e))))
  -- from the entry
  refine lv_aload_n hx hb dX1_putByDue_0 rfl (lv_at hl 0 rfl) ?_
  refine va_get (D := D) (ci := 1) (v := va_rf fi) (C := RX1) (T := TX1) (N := 3) hx hb ha inlX1 hown hK hP 0 rfl rfl 0 (by decide) (ha _ kf_X1_20) (fun _ h9 => h9) rfl dX1_putByDue_1 ?_
  cases fi with
  | none =>
    have hP : va_P D vwCl ([(h0, .inr (1, [.null, va_rf la, .int n]))] ++ va_pl L (pf cJ kd pi bd af bo)) _ := hP
    have hD : va_D A ([(h0, .inr (1, [.null, va_rf la, .int n]))] ++ va_pl L (pf cJ kd pi bd af bo)) := hD
    refine lv_ifnullN (tgt := 28) hx hb dX1_putByDue_4 (by decide) ?_
    refine lv_aload_n hx hb dX1_putByDue_28 rfl (lv_at hl 0 rfl) ?_
    refine lv_aload_n hx hb dX1_putByDue_29 rfl (lv_at hl 1 rfl) ?_
    have hPc := hP.part (X := [(h0, .inr (1, [.null, va_rf la, .int n]))]) (cx := [(h0, .inr (1, [.null, va_rf la, .int n]))]) (pl := va_pl L (pf cJ kd pi bd af bo)) [0] rfl
    have hDc := hD.part (X := [(h0, .inr (1, [.null, va_rf la, .int n]))]) (cx := [(h0, .inr (1, [.null, va_rf la, .int n]))]) (pl := va_pl L (pf cJ kd pi bd af bo)) [0] (by decide) rfl
    have hFc := va_freeP (X := [(h0, .inr (1, [.null, va_rf la, .int n]))]) (cx := [(h0, .inr (1, [.null, va_rf la, .int n]))]) (pl := va_pl L (pf cJ kd pi bd af bo)) hD hS hA [0] rfl
    refine va_callv (va_runV (As := [.ref q]) (rest := []) ⟨hx, hb, hml, hown, ha⟩ (s_append l D cI cJ cZ cO _ h0 q L kd pi bd af bo none la n m_q k_q hla) (cwV 1 ha (gaV kl_X1_30 km_X1_append ks_X1_append kz_X1 kd_X1_append) rfl rfl rfl (by decide +kernel) ⟨Nat.le_of_ble_eq_true rfl, Nat.le_of_ble_eq_true rfl⟩) ⟨pw_blind, va_recv hK hPc (ci := 1) (q0 := 0) rfl rfl, fun U hU hW => ⟨rfl, pw_start hU hW hPc hK hDc hN⟩⟩ rfl rfl hl.1 rfl (lv_room (Nat.le_of_ble_eq_true rfl)) dX1_putByDue_30 ⟨Nat.le_of_ble_eq_true rfl, Nat.le_of_ble_eq_true rfl⟩) hS (fun q _ h => hFc q h) hFc (fun u t H1 locs ht hvm hw hB hz1 hk1 hS => ?_)
    obtain ⟨hP1, hK1, hD1⟩ := hB
    rw [ht] at hP1
    obtain ⟨hP, hD⟩ := va_joinP (wr := []) (rx := [(h0, .inr (1, [va_rf (ap_fi la none q), va_rf (some q), .int (n + 1)]))]) (pl1 := va_pl L (pf cJ kd pi bd (ap_af af la q) bo)) hP hD [0] [] rfl rfl (by decide) (by decide) hk1 hFc hP1 hD1
    generalize H1 = H at hP hS ⊢
    have hP : va_P D vwCl ([(h0, .inr (1, [va_rf (ap_fi la none q), va_rf (some q), .int (n + 1)]))] ++ va_pl L (pf cJ kd pi bd (ap_af af la q) bo)) H := hP
    have hD : va_D A ([(h0, .inr (1, [va_rf (ap_fi la none q), va_rf (some q), .int (n + 1)]))] ++ va_pl L (pf cJ kd pi bd (ap_af af la q) bo)) := hD
    refine W.widen (k := 0) (n := 0) (Nat.le_of_ble_eq_true rfl) (Nat.le_of_ble_eq_true rfl) ?_
    have hP9 : va_P D vwCl ([(h0, .inr (1, [va_rf (ap_fi la none q), va_rf (some q), .int (n + 1)]))] ++ va_pl L (pf cJ kd pi bd (ap_af af la q) bo)) _ := hP
    have hD9 : va_D A ([(h0, .inr (1, [va_rf (ap_fi la none q), va_rf (some q), .int (n + 1)]))] ++ va_pl L (pf cJ kd pi bd (ap_af af la q) bo)) := hD
    exact W.vret hx hb hr (fun t ht hW => ⟨⟨(), rfl, trivial, ⟨(ap_fi la none q), (some q), (ap_af af la q), xs, [], ⟨(List.append_nil xs).symm, ch_append hch hnd hq, fun a h1 h2 => ap_out hch h1 h2, fun b hb => (by have h7 := hch.1; cases xs with | nil => cases hb | cons a t => cases h7), fun c hc => (by cases hc)⟩, by rw [ht]; exact hP9, va_K.moved hW.alike hK, hD9⟩⟩, hS.F ht⟩) hS.2.2 dX1_putByDue_33
  | some z_18 =>
    have hP : va_P D vwCl ([(h0, .inr (1, [.ref z_18, va_rf la, .int n]))] ++ va_pl L (pf cJ kd pi bd af bo)) _ := hP
    have hD : va_D A ([(h0, .inr (1, [.ref z_18, va_rf la, .int n]))] ++ va_pl L (pf cJ kd pi bd af bo)) := hD
    have m_z_18 := (hfi z_18 rfl).1
    have k_z_18 := (hfi z_18 rfl).2
    refine lv_ifnull hx hb dX1_putByDue_4 ?_
    refine lv_aload_n hx hb dX1_putByDue_7 rfl (lv_at hl 0 rfl) ?_
    refine va_get (D := D) (ci := 1) (v := va_rf la) (C := RX1) (T := TX1) (N := 3) hx hb ha inlX1 hown hK hP 0 rfl rfl 1 (by decide) (ha _ kf_X1_15) (fun _ h9 => h9) rfl dX1_putByDue_8 ?_
    cases la with
    | none =>
      have hP : va_P D vwCl ([(h0, .inr (1, [.ref z_18, .null, .int n]))] ++ va_pl L (pf cJ kd pi bd af bo)) _ := hP
      have hD : va_D A ([(h0, .inr (1, [.ref z_18, .null, .int n]))] ++ va_pl L (pf cJ kd pi bd af bo)) := hD
      refine lv_ifnullN (tgt := 28) hx hb dX1_putByDue_11 (by decide) ?_
      refine lv_aload_n hx hb dX1_putByDue_28 rfl (lv_at hl 0 rfl) ?_
      refine lv_aload_n hx hb dX1_putByDue_29 rfl (lv_at hl 1 rfl) ?_
      have hPc := hP.part (X := [(h0, .inr (1, [.ref z_18, .null, .int n]))]) (cx := [(h0, .inr (1, [.ref z_18, .null, .int n]))]) (pl := va_pl L (pf cJ kd pi bd af bo)) [0] rfl
      have hDc := hD.part (X := [(h0, .inr (1, [.ref z_18, .null, .int n]))]) (cx := [(h0, .inr (1, [.ref z_18, .null, .int n]))]) (pl := va_pl L (pf cJ kd pi bd af bo)) [0] (by decide) rfl
      have hFc := va_freeP (X := [(h0, .inr (1, [.ref z_18, .null, .int n]))]) (cx := [(h0, .inr (1, [.ref z_18, .null, .int n]))]) (pl := va_pl L (pf cJ kd pi bd af bo)) hD hS hA [0] rfl
      refine va_callv (va_runV (As := [.ref q]) (rest := []) ⟨hx, hb, hml, hown, ha⟩ (s_append l D cI cJ cZ cO _ h0 q L kd pi bd af bo (some z_18) none n m_q k_q hla) (cwV 1 ha (gaV kl_X1_30 km_X1_append ks_X1_append kz_X1 kd_X1_append) rfl rfl rfl (by decide +kernel) ⟨Nat.le_of_ble_eq_true rfl, Nat.le_of_ble_eq_true rfl⟩) ⟨pw_blind, va_recv hK hPc (ci := 1) (q0 := 0) rfl rfl, fun U hU hW => ⟨rfl, pw_start hU hW hPc hK hDc hN⟩⟩ rfl rfl hl.1 rfl (lv_room (Nat.le_of_ble_eq_true rfl)) dX1_putByDue_30 ⟨Nat.le_of_ble_eq_true rfl, Nat.le_of_ble_eq_true rfl⟩) hS (fun q _ h => hFc q h) hFc (fun u t H1 locs ht hvm hw hB hz1 hk1 hS => ?_)
      obtain ⟨hP1, hK1, hD1⟩ := hB
      rw [ht] at hP1
      obtain ⟨hP, hD⟩ := va_joinP (wr := []) (rx := [(h0, .inr (1, [va_rf (ap_fi none (some z_18) q), va_rf (some q), .int (n + 1)]))]) (pl1 := va_pl L (pf cJ kd pi bd (ap_af af none q) bo)) hP hD [0] [] rfl rfl (by decide) (by decide) hk1 hFc hP1 hD1
      generalize H1 = H at hP hS ⊢
      have hP : va_P D vwCl ([(h0, .inr (1, [va_rf (ap_fi none (some z_18) q), va_rf (some q), .int (n + 1)]))] ++ va_pl L (pf cJ kd pi bd (ap_af af none q) bo)) H := hP
      have hD : va_D A ([(h0, .inr (1, [va_rf (ap_fi none (some z_18) q), va_rf (some q), .int (n + 1)]))] ++ va_pl L (pf cJ kd pi bd (ap_af af none q) bo)) := hD
      refine W.widen (k := 0) (n := 0) (Nat.le_of_ble_eq_true rfl) (Nat.le_of_ble_eq_true rfl) ?_
      have hP9 : va_P D vwCl ([(h0, .inr (1, [va_rf (ap_fi none (some z_18) q), va_rf (some q), .int (n + 1)]))] ++ va_pl L (pf cJ kd pi bd (ap_af af none q) bo)) _ := hP
      have hD9 : va_D A ([(h0, .inr (1, [va_rf (ap_fi none (some z_18) q), va_rf (some q), .int (n + 1)]))] ++ va_pl L (pf cJ kd pi bd (ap_af af none q) bo)) := hD
      exact W.vret hx hb hr (fun t ht hW => ⟨⟨(), rfl, trivial, ⟨(ap_fi none (some z_18) q), (some q), (ap_af af none q), xs, [], ⟨(List.append_nil xs).symm, ch_append hch hnd hq, fun a h1 h2 => ap_out hch h1 h2, fun b hb => (by have h7 := List.getLast?_eq_none_iff.mp hch.2.1.symm; rw [h7] at hb; cases hb), fun c hc => (by cases hc)⟩, by rw [ht]; exact hP9, va_K.moved hW.alike hK, hD9⟩⟩, hS.F ht⟩) hS.2.2 dX1_putByDue_33
    | some z_20 =>
      have hP : va_P D vwCl ([(h0, .inr (1, [.ref z_18, .ref z_20, .int n]))] ++ va_pl L (pf cJ kd pi bd af bo)) _ := hP
      have hD : va_D A ([(h0, .inr (1, [.ref z_18, .ref z_20, .int n]))] ++ va_pl L (pf cJ kd pi bd af bo)) := hD
      have m_z_20 := (hla z_20 rfl).1
      have k_z_20 := (hla z_20 rfl).2
      refine lv_ifnull hx hb dX1_putByDue_11 ?_
      refine lv_aload_n hx hb dX1_putByDue_14 rfl (lv_at hl 0 rfl) ?_
      refine va_get (D := D) (ci := 1) (v := .ref z_20) (C := RX1) (T := TX1) (N := 3) hx hb ha inlX1 hown hK hP 0 rfl rfl 1 (by decide) (ha _ kf_X1_15) (fun _ h9 => h9) rfl dX1_putByDue_15 ?_
      obtain ⟨k_22, hk_22⟩ := va_pl_get (X := [(h0, .inr (1, [.ref z_18, .ref z_20, .int n]))]) (f := pf cJ kd pi bd af bo) m_z_20
      refine va_getN (D := D) (ci := 5) (v := .int (pi 0 z_20)) (C := RX5) (T := TX5) (N := 7) hx hb ha inlX5 hown hK hP k_22 (hk_22.trans (congrArg (fun z => some (z_20, z)) (pf_p k_z_20))) rfl 0 (by decide) (va_Nw.use rfl (hN.f RX1 27 "CongestionBench$Parcel" "due" "I" "CongestionBench" (by decide +kernel))) (fun _ h9 => h9) rfl dX1_putByDue_18 ?_
      refine lv_topi (fun x_23 ex_23 => ?_)
      refine lv_aload_n hx hb dX1_putByDue_21 rfl (lv_at hl 1 rfl) ?_
      obtain ⟨k_24, hk_24⟩ := va_pl_get (X := [(h0, .inr (1, [.ref z_18, .ref z_20, .int n]))]) (f := pf cJ kd pi bd af bo) m_q
      refine va_getN (D := D) (ci := 5) (v := .int (pi 0 q)) (C := RX5) (T := TX5) (N := 7) hx hb ha inlX5 hown hK hP k_24 (hk_24.trans (congrArg (fun z => some (q, z)) (pf_p k_q))) rfl 0 (by decide) (va_Nw.use rfl (hN.f RX1 27 "CongestionBench$Parcel" "due" "I" "CongestionBench" (by decide +kernel))) (fun _ h9 => h9) rfl dX1_putByDue_22 ?_
      refine lv_topi (fun x_25 ex_25 => ?_)
      refine lv_icmp_gt (tgt := 34) hx hb dX1_putByDue_25 (by decide) (fun c_26 => ?_) (fun c_26 => ?_)
      · refine lv_aload_n hx hb dX1_putByDue_34 rfl (lv_at hl 0 rfl) ?_
        refine lv_dup hx hb dX1_putByDue_35 rfl ?_
        refine va_get (D := D) (ci := 1) (v := .int n) (C := RX1) (T := TX1) (N := 3) hx hb ha inlX1 hown hK hP 0 rfl rfl 2 (by decide) (ha _ kf_X1_23) (fun _ h9 => h9) rfl dX1_putByDue_36 ?_
        refine lv_iconst (v := 1) hx hb dX1_putByDue_39 (by decide) ?_
        refine lv_iadd hx hb dX1_putByDue_40 ?_
        refine lv_topi (fun x_27 ex_27 => ?_)
        refine va_put (D := D) (ci := 1) (v := .int x_27) (ty := .int) (C := RX1) (T := TX1) (N := 3) hx hb ha inlX1 tyX1 tyX1_ok nmX1 hown hK hP hD hS 0 rfl rfl 2 (by decide) (ha _ kf_X1_23) (fun _ h9 => h9) rfl (by decide +kernel) rfl rfl (Nat.le_of_ble_eq_true rfl) dX1_putByDue_41 (fun H locs hP hD hS => ?_)
        have hP : va_P D vwCl ([(h0, .inr (1, [.ref z_18, .ref z_20, .int x_27]))] ++ va_pl L (pf cJ kd pi bd af bo)) H := hP
        have hD : va_D A ([(h0, .inr (1, [.ref z_18, .ref z_20, .int x_27]))] ++ va_pl L (pf cJ kd pi bd af bo)) := hD
        refine lv_aload_n hx hb dX1_putByDue_44 rfl (lv_at hl 0 rfl) ?_
        refine va_get (D := D) (ci := 1) (v := .ref z_18) (C := RX1) (T := TX1) (N := 3) hx hb ha inlX1 hown hK hP 0 rfl rfl 0 (by decide) (ha _ kf_X1_20) (fun _ h9 => h9) rfl dX1_putByDue_45 ?_
        obtain ⟨k_28, hk_28⟩ := va_pl_get (X := [(h0, .inr (1, [.ref z_18, .ref z_20, .int x_27]))]) (f := pf cJ kd pi bd af bo) m_z_18
        refine va_getN (D := D) (ci := 5) (v := .int (pi 0 z_18)) (C := RX5) (T := TX5) (N := 7) hx hb ha inlX5 hown hK hP k_28 (hk_28.trans (congrArg (fun z => some (z_18, z)) (pf_p k_z_18))) rfl 0 (by decide) (va_Nw.use rfl (hN.f RX1 27 "CongestionBench$Parcel" "due" "I" "CongestionBench" (by decide +kernel))) (fun _ h9 => h9) rfl dX1_putByDue_48 ?_
        refine lv_topi (fun x_29 ex_29 => ?_)
        refine lv_aload_n hx hb dX1_putByDue_51 rfl (lv_at hl 1 rfl) ?_
        obtain ⟨k_30, hk_30⟩ := va_pl_get (X := [(h0, .inr (1, [.ref z_18, .ref z_20, .int x_27]))]) (f := pf cJ kd pi bd af bo) m_q
        refine va_getN (D := D) (ci := 5) (v := .int (pi 0 q)) (C := RX5) (T := TX5) (N := 7) hx hb ha inlX5 hown hK hP k_30 (hk_30.trans (congrArg (fun z => some (q, z)) (pf_p k_q))) rfl 0 (by decide) (va_Nw.use rfl (hN.f RX1 27 "CongestionBench$Parcel" "due" "I" "CongestionBench" (by decide +kernel))) (fun _ h9 => h9) rfl dX1_putByDue_52 ?_
        refine lv_topi (fun x_31 ex_31 => ?_)
        refine lv_icmp_le (tgt := 72) hx hb dX1_putByDue_55 (by decide) (fun c_32 => ?_) (fun c_32 => ?_)
        · refine lv_aload_n hx hb dX1_putByDue_72 rfl (lv_at hl 0 rfl) ?_
          refine va_get (D := D) (ci := 1) (v := .ref z_18) (C := RX1) (T := TX1) (N := 3) hx hb ha inlX1 hown hK hP 0 rfl rfl 0 (by decide) (ha _ kf_X1_20) (fun _ h9 => h9) rfl dX1_putByDue_73 ?_
          refine lv_astore_n (lv' := [(2, .ref z_18), (0, .ref h0), (1, .ref q)]) hx hb dX1_putByDue_76 rfl hl (by decide) rfl (fun ls hl => ?_)
          have loop : ∀ (k : Nat) (b : Nat) (ys zs : List Nat), xs = ys ++ b :: zs → pi 0 b ≤ pi 0 q → zs.length < k → ∀ (H : Heap) (locs : List Loc), va_P D vwCl ([(h0, .inr (1, [.ref z_18, .ref z_20, .int x_27]))] ++ va_pl L (pf cJ kd pi bd af bo)) H → va_D A ([(h0, .inr (1, [.ref z_18, .ref z_20, .int x_27]))] ++ va_pl L (pf cJ kd pi bd af bo)) → va_S A s.heap H locs → ∀ (ls : Array Slot), lv_has ls 3 [(0, .ref h0), (1, .ref q), (2, .ref b)] → W p l e ({ frames := 1, cells := 0, slots := 0, locals := 21 }) s m #[(.ref h0 : Value), (.ref q : Value)] below meth c H locs 0 0 (MQ below (va_Qv (fun (_ : Unit) => True) (fun (_ : Unit) (t : State) => ∃ (fi2 la2 : Option Nat) (af2 : Nat → Option Nat) (ys zs : List Nat), (xs = ys ++ zs ∧ ch af2 fi2 la2 (ys ++ q :: zs) ∧ (∀ a, a ∉ xs → a ≠ q → af2 a = af a) ∧ ((∀ b, ys.getLast? = some b → pi 0 b ≤ pi 0 q) ∧ ∀ c, zs.head? = some c → pi 0 q < pi 0 c)) ∧ pw_t D cI cJ cZ cO A ([(h0, .inr (1, [va_rf fi2, va_rf la2, .int (n + 1)]))] ++ va_pl L (pf cJ kd pi bd af2 bo)) t) A) #[(.ref h0 : Value), (.ref q : Value)] s 0 0 A) (F0 m 77 ls []) := by
            intro k
            induction k with
            | zero => intro b ys zs _ _ h; exact absurd h (Nat.not_lt_zero _)
            | succ k ih =>
              intro b ys zs hdec hdue hlen H locs hP hD hS ls hl
              have m_b := (hxs b (by rw [hdec]; simp)).1
              have k_b := (hxs b (by rw [hdec]; simp)).2
              refine lv_aload_n hx hb dX1_putByDue_77 rfl (lv_at hl 2 rfl) ?_
              obtain ⟨k_33, hk_33⟩ := va_pl_get (X := [(h0, .inr (1, [.ref z_18, .ref z_20, .int x_27]))]) (f := pf cJ kd pi bd af bo) m_b
              refine va_getN (D := D) (ci := 5) (v := va_rf (af b)) (C := RX5) (T := TX5) (N := 7) hx hb ha inlX5 hown hK hP k_33 (hk_33.trans (congrArg (fun z => some (b, z)) (pf_p k_b))) rfl 6 (by decide) (va_Nw.use rfl (hN.f RX1 9 "CongestionBench$Parcel" "after" "LCongestionBench$Parcel;" "CongestionBench" (by decide +kernel))) (fun _ h9 => h9) rfl dX1_putByDue_78 ?_
              cases ho_35 : af b with
              | none =>
                exfalso
                have h5 := lk_at (by rw [← hdec]; exact hch.2.2)
                rw [ho_35] at h5
                have hz0 : zs = [] := by cases zs with | nil => rfl | cons a t => cases h5
                subst hz0
                have h2 := hch.2.1
                rw [hdec, List.getLast?_concat] at h2
                have h3 := Option.some.inj h2
                have h6 := c_26
                rw [ex_25, ex_23, h3] at h6
                exact Int32.not_lt.mpr hdue h6
              | some z_34 =>
                have m_z_34 := (hcl b (by rw [hdec]; simp) z_34 ho_35).1
                have k_z_34 := (hcl b (by rw [hdec]; simp) z_34 ho_35).2
                refine lv_ifnull hx hb dX1_putByDue_81 ?_
                refine lv_aload_n hx hb dX1_putByDue_84 rfl (lv_at hl 2 rfl) ?_
                obtain ⟨k_36, hk_36⟩ := va_pl_get (X := [(h0, .inr (1, [.ref z_18, .ref z_20, .int x_27]))]) (f := pf cJ kd pi bd af bo) m_b
                refine va_getN (D := D) (ci := 5) (v := .ref z_34) (C := RX5) (T := TX5) (N := 7) hx hb ha inlX5 hown hK hP k_36 (hk_36.trans (congrArg (fun z => some (b, z)) (pf_p k_b))) rfl 6 (by decide) (va_Nw.use rfl (hN.f RX1 9 "CongestionBench$Parcel" "after" "LCongestionBench$Parcel;" "CongestionBench" (by decide +kernel))) (fun _ h9 => h9) (congrArg (fun z => some (va_rf z)) ho_35) dX1_putByDue_85 ?_
                obtain ⟨k_37, hk_37⟩ := va_pl_get (X := [(h0, .inr (1, [.ref z_18, .ref z_20, .int x_27]))]) (f := pf cJ kd pi bd af bo) m_z_34
                refine va_getN (D := D) (ci := 5) (v := .int (pi 0 z_34)) (C := RX5) (T := TX5) (N := 7) hx hb ha inlX5 hown hK hP k_37 (hk_37.trans (congrArg (fun z => some (z_34, z)) (pf_p k_z_34))) rfl 0 (by decide) (va_Nw.use rfl (hN.f RX1 27 "CongestionBench$Parcel" "due" "I" "CongestionBench" (by decide +kernel))) (fun _ h9 => h9) rfl dX1_putByDue_88 ?_
                refine lv_topi (fun x_38 ex_38 => ?_)
                refine lv_aload_n hx hb dX1_putByDue_91 rfl (lv_at hl 1 rfl) ?_
                obtain ⟨k_39, hk_39⟩ := va_pl_get (X := [(h0, .inr (1, [.ref z_18, .ref z_20, .int x_27]))]) (f := pf cJ kd pi bd af bo) m_q
                refine va_getN (D := D) (ci := 5) (v := .int (pi 0 q)) (C := RX5) (T := TX5) (N := 7) hx hb ha inlX5 hown hK hP k_39 (hk_39.trans (congrArg (fun z => some (q, z)) (pf_p k_q))) rfl 0 (by decide) (va_Nw.use rfl (hN.f RX1 27 "CongestionBench$Parcel" "due" "I" "CongestionBench" (by decide +kernel))) (fun _ h9 => h9) rfl dX1_putByDue_92 ?_
                refine lv_topi (fun x_40 ex_40 => ?_)
                refine lv_icmp_gt (tgt := 106) hx hb dX1_putByDue_95 (by decide) (fun c_41 => ?_) (fun c_41 => ?_)
                · refine lv_aload_n hx hb dX1_putByDue_106 rfl (lv_at hl 1 rfl) ?_
                  refine lv_aload_n hx hb dX1_putByDue_107 rfl (lv_at hl 2 rfl) ?_
                  obtain ⟨k_42, hk_42⟩ := va_pl_get (X := [(h0, .inr (1, [.ref z_18, .ref z_20, .int x_27]))]) (f := pf cJ kd pi bd af bo) m_b
                  refine va_getN (D := D) (ci := 5) (v := .ref z_34) (C := RX5) (T := TX5) (N := 7) hx hb ha inlX5 hown hK hP k_42 (hk_42.trans (congrArg (fun z => some (b, z)) (pf_p k_b))) rfl 6 (by decide) (va_Nw.use rfl (hN.f RX1 9 "CongestionBench$Parcel" "after" "LCongestionBench$Parcel;" "CongestionBench" (by decide +kernel))) (fun _ h9 => h9) (congrArg (fun z => some (va_rf z)) ho_35) dX1_putByDue_108 ?_
                  obtain ⟨k_43, hk_43⟩ := va_pl_get (X := [(h0, .inr (1, [.ref z_18, .ref z_20, .int x_27]))]) (f := pf cJ kd pi bd af bo) m_q
                  refine va_putN (D := D) (ci := 5) (v := .ref z_34) (ty := .object "CongestionBench$Parcel") (C := RX5) (T := TX5) (N := 7) hx hb ha inlX5 tyX5 tyX5_ok nmX5 hown hK hP hD hS k_43 (hk_43.trans (congrArg (fun z => some (q, z)) (pf_p k_q))) rfl 6 (by decide) (va_Nw.use rfl (hN.f RX1 9 "CongestionBench$Parcel" "after" "LCongestionBench$Parcel;" "CongestionBench" (by decide +kernel))) (fun _ h9 => h9) rfl (by decide +kernel) rfl rfl (Nat.le_of_ble_eq_true rfl) dX1_putByDue_111 (fun H locs hP1 hD1 hS => ?_)
                  have hP : va_P D vwCl ([(h0, .inr (1, [.ref z_18, .ref z_20, .int x_27]))] ++ va_pl L (pf cJ kd pi bd (va_up af q (some z_34)) bo)) H := by rw [← pf_u6 k_q, ← va_pl_set hD m_q hk_43]; exact hP1
                  have hD : va_D A ([(h0, .inr (1, [.ref z_18, .ref z_20, .int x_27]))] ++ va_pl L (pf cJ kd pi bd (va_up af q (some z_34)) bo)) := by rw [← pf_u6 k_q, ← va_pl_set hD m_q hk_43]; exact hD1
                  refine lv_aload_n hx hb dX1_putByDue_114 rfl (lv_at hl 2 rfl) ?_
                  refine lv_aload_n hx hb dX1_putByDue_115 rfl (lv_at hl 1 rfl) ?_
                  obtain ⟨k_44, hk_44⟩ := va_pl_get (X := [(h0, .inr (1, [.ref z_18, .ref z_20, .int x_27]))]) (f := pf cJ kd pi bd (va_up af q (some z_34)) bo) m_b
                  refine va_putN (D := D) (ci := 5) (v := .ref q) (ty := .object "CongestionBench$Parcel") (C := RX5) (T := TX5) (N := 7) hx hb ha inlX5 tyX5 tyX5_ok nmX5 hown hK hP hD hS k_44 (hk_44.trans (congrArg (fun z => some (b, z)) (pf_p k_b))) rfl 6 (by decide) (va_Nw.use rfl (hN.f RX1 9 "CongestionBench$Parcel" "after" "LCongestionBench$Parcel;" "CongestionBench" (by decide +kernel))) (fun _ h9 => h9) rfl (by decide +kernel) rfl rfl (Nat.le_of_ble_eq_true rfl) dX1_putByDue_116 (fun H locs hP1 hD1 hS => ?_)
                  have hP : va_P D vwCl ([(h0, .inr (1, [.ref z_18, .ref z_20, .int x_27]))] ++ va_pl L (pf cJ kd pi bd (va_up (va_up af q (some z_34)) b (some q)) bo)) H := by rw [← pf_u6 k_b, ← va_pl_set hD m_b hk_44]; exact hP1
                  have hD : va_D A ([(h0, .inr (1, [.ref z_18, .ref z_20, .int x_27]))] ++ va_pl L (pf cJ kd pi bd (va_up (va_up af q (some z_34)) b (some q)) bo)) := by rw [← pf_u6 k_b, ← va_pl_set hD m_b hk_44]; exact hD1
                  subst ex_27
                  have hP9 : va_P D vwCl ([(h0, .inr (1, [va_rf (some z_18), va_rf (some z_20), .int (n + 1)]))] ++ va_pl L (pf cJ kd pi bd (va_up (va_up af q (some z_34)) b (some q)) bo)) _ := hP
                  have hD9 : va_D A ([(h0, .inr (1, [va_rf (some z_18), va_rf (some z_20), .int (n + 1)]))] ++ va_pl L (pf cJ kd pi bd (va_up (va_up af q (some z_34)) b (some q)) bo)) := hD
                  exact W.vret hx hb hr (fun t ht hW => ⟨⟨(), rfl, trivial, ⟨(some z_18), (some z_20), (va_up (va_up af q (some z_34)) b (some q)), (ys ++ [b]), zs, ⟨by rw [hdec]; simp, ch_mid (by rw [← hdec]; exact hch) ho_35 (by rw [← hdec]; exact hnd) (by rw [← hdec]; exact hq), fun a h1 h2 => mid_out (by rw [hdec]; simp) h1 h2, fun b2 hb2 => (by rw [List.getLast?_concat] at hb2; rw [← Option.some.inj hb2]; exact hdue), fun c2 hc2 => (by have h5 := lk_at (by rw [← hdec]; exact hch.2.2); rw [hc2, ho_35] at h5; have h8 := Option.some.inj h5; have h6 := c_41; rw [ex_40, ex_38] at h6; rw [← h8]; exact h6)⟩, by rw [ht]; exact hP9, va_K.moved hW.alike hK, hD9⟩⟩, hS.F ht⟩) hS.2.2 dX1_putByDue_119
                · refine lv_aload_n hx hb dX1_putByDue_98 rfl (lv_at hl 2 rfl) ?_
                  obtain ⟨k_45, hk_45⟩ := va_pl_get (X := [(h0, .inr (1, [.ref z_18, .ref z_20, .int x_27]))]) (f := pf cJ kd pi bd af bo) m_b
                  refine va_getN (D := D) (ci := 5) (v := .ref z_34) (C := RX5) (T := TX5) (N := 7) hx hb ha inlX5 hown hK hP k_45 (hk_45.trans (congrArg (fun z => some (b, z)) (pf_p k_b))) rfl 6 (by decide) (va_Nw.use rfl (hN.f RX1 9 "CongestionBench$Parcel" "after" "LCongestionBench$Parcel;" "CongestionBench" (by decide +kernel))) (fun _ h9 => h9) (congrArg (fun z => some (va_rf z)) ho_35) dX1_putByDue_99 ?_
                  refine lv_astore_n (lv' := [(2, .ref z_34), (0, .ref h0), (1, .ref q)]) hx hb dX1_putByDue_102 rfl hl (by decide) rfl (fun ls hl => ?_)
                  refine lv_goto (tgt := 77) hx hb dX1_putByDue_103 (by decide) ?_
                  obtain ⟨zt, rfl⟩ : ∃ zt, zs = z_34 :: zt := by
                    have h5 := lk_at (by rw [← hdec]; exact hch.2.2)
                    rw [ho_35] at h5
                    cases zs with
                    | nil => cases h5
                    | cons a t => cases h5; exact ⟨t, rfl⟩
                  exact ih z_34 (ys ++ [b]) zt (by rw [hdec]; simp) (by have h6 := Int32.not_lt.mp c_41; rw [ex_40, ex_38] at h6; exact h6) (Nat.lt_of_succ_lt_succ hlen) _ _ hP hD hS _ (lv_sub hl [1, 2, 0] rfl)
          obtain ⟨zt, hzt⟩ : ∃ zt, xs = [] ++ z_18 :: zt := by
            have h1 := hch.1
            cases xs with
            | nil => cases h1
            | cons a t => cases h1; exact ⟨t, rfl⟩
          exact loop (zt.length + 1) z_18 [] zt hzt (by have h6 := c_32; rw [ex_29, ex_31] at h6; exact h6) (Nat.lt_succ_self _) _ _ hP hD hS _ (lv_sub hl [1, 2, 0] rfl)
        · refine lv_aload_n hx hb dX1_putByDue_58 rfl (lv_at hl 1 rfl) ?_
          refine lv_aload_n hx hb dX1_putByDue_59 rfl (lv_at hl 0 rfl) ?_
          refine va_get (D := D) (ci := 1) (v := .ref z_18) (C := RX1) (T := TX1) (N := 3) hx hb ha inlX1 hown hK hP 0 rfl rfl 0 (by decide) (ha _ kf_X1_20) (fun _ h9 => h9) rfl dX1_putByDue_60 ?_
          obtain ⟨k_46, hk_46⟩ := va_pl_get (X := [(h0, .inr (1, [.ref z_18, .ref z_20, .int x_27]))]) (f := pf cJ kd pi bd af bo) m_q
          refine va_putN (D := D) (ci := 5) (v := .ref z_18) (ty := .object "CongestionBench$Parcel") (C := RX5) (T := TX5) (N := 7) hx hb ha inlX5 tyX5 tyX5_ok nmX5 hown hK hP hD hS k_46 (hk_46.trans (congrArg (fun z => some (q, z)) (pf_p k_q))) rfl 6 (by decide) (va_Nw.use rfl (hN.f RX1 9 "CongestionBench$Parcel" "after" "LCongestionBench$Parcel;" "CongestionBench" (by decide +kernel))) (fun _ h9 => h9) rfl (by decide +kernel) rfl rfl (Nat.le_of_ble_eq_true rfl) dX1_putByDue_63 (fun H locs hP1 hD1 hS => ?_)
          have hP : va_P D vwCl ([(h0, .inr (1, [.ref z_18, .ref z_20, .int x_27]))] ++ va_pl L (pf cJ kd pi bd (va_up af q (some z_18)) bo)) H := by rw [← pf_u6 k_q, ← va_pl_set hD m_q hk_46]; exact hP1
          have hD : va_D A ([(h0, .inr (1, [.ref z_18, .ref z_20, .int x_27]))] ++ va_pl L (pf cJ kd pi bd (va_up af q (some z_18)) bo)) := by rw [← pf_u6 k_q, ← va_pl_set hD m_q hk_46]; exact hD1
          refine lv_aload_n hx hb dX1_putByDue_66 rfl (lv_at hl 0 rfl) ?_
          refine lv_aload_n hx hb dX1_putByDue_67 rfl (lv_at hl 1 rfl) ?_
          refine va_put (D := D) (ci := 1) (v := .ref q) (ty := .object "CongestionBench$Parcel") (C := RX1) (T := TX1) (N := 3) hx hb ha inlX1 tyX1 tyX1_ok nmX1 hown hK hP hD hS 0 rfl rfl 0 (by decide) (ha _ kf_X1_20) (fun _ h9 => h9) rfl (by decide +kernel) rfl rfl (Nat.le_of_ble_eq_true rfl) dX1_putByDue_68 (fun H locs hP hD hS => ?_)
          have hP : va_P D vwCl ([(h0, .inr (1, [.ref q, .ref z_20, .int x_27]))] ++ va_pl L (pf cJ kd pi bd (va_up af q (some z_18)) bo)) H := hP
          have hD : va_D A ([(h0, .inr (1, [.ref q, .ref z_20, .int x_27]))] ++ va_pl L (pf cJ kd pi bd (va_up af q (some z_18)) bo)) := hD
          subst ex_27
          have hP9 : va_P D vwCl ([(h0, .inr (1, [va_rf (some q), va_rf (some z_20), .int (n + 1)]))] ++ va_pl L (pf cJ kd pi bd (va_up af q (some z_18)) bo)) _ := hP
          have hD9 : va_D A ([(h0, .inr (1, [va_rf (some q), va_rf (some z_20), .int (n + 1)]))] ++ va_pl L (pf cJ kd pi bd (va_up af q (some z_18)) bo)) := hD
          exact W.vret hx hb hr (fun t ht hW => ⟨⟨(), rfl, trivial, ⟨(some q), (some z_20), (va_up af q (some z_18)), [], xs, ⟨rfl, ch_front hch hq, fun a h1 h2 => va_up_ne _ _ h2, fun b hb => (by cases hb), fun c hc => (by have h7 := Option.some.inj (hch.1.trans hc); have h6 := Int32.not_le.mp c_32; rw [ex_31, ex_29] at h6; rw [← h7]; exact h6)⟩, by rw [ht]; exact hP9, va_K.moved hW.alike hK, hD9⟩⟩, hS.F ht⟩) hS.2.2 dX1_putByDue_71
      · refine lv_aload_n hx hb dX1_putByDue_28 rfl (lv_at hl 0 rfl) ?_
        refine lv_aload_n hx hb dX1_putByDue_29 rfl (lv_at hl 1 rfl) ?_
        have hPc := hP.part (X := [(h0, .inr (1, [.ref z_18, .ref z_20, .int n]))]) (cx := [(h0, .inr (1, [.ref z_18, .ref z_20, .int n]))]) (pl := va_pl L (pf cJ kd pi bd af bo)) [0] rfl
        have hDc := hD.part (X := [(h0, .inr (1, [.ref z_18, .ref z_20, .int n]))]) (cx := [(h0, .inr (1, [.ref z_18, .ref z_20, .int n]))]) (pl := va_pl L (pf cJ kd pi bd af bo)) [0] (by decide) rfl
        have hFc := va_freeP (X := [(h0, .inr (1, [.ref z_18, .ref z_20, .int n]))]) (cx := [(h0, .inr (1, [.ref z_18, .ref z_20, .int n]))]) (pl := va_pl L (pf cJ kd pi bd af bo)) hD hS hA [0] rfl
        refine va_callv (va_runV (As := [.ref q]) (rest := []) ⟨hx, hb, hml, hown, ha⟩ (s_append l D cI cJ cZ cO _ h0 q L kd pi bd af bo (some z_18) (some z_20) n m_q k_q hla) (cwV 1 ha (gaV kl_X1_30 km_X1_append ks_X1_append kz_X1 kd_X1_append) rfl rfl rfl (by decide +kernel) ⟨Nat.le_of_ble_eq_true rfl, Nat.le_of_ble_eq_true rfl⟩) ⟨pw_blind, va_recv hK hPc (ci := 1) (q0 := 0) rfl rfl, fun U hU hW => ⟨rfl, pw_start hU hW hPc hK hDc hN⟩⟩ rfl rfl hl.1 rfl (lv_room (Nat.le_of_ble_eq_true rfl)) dX1_putByDue_30 ⟨Nat.le_of_ble_eq_true rfl, Nat.le_of_ble_eq_true rfl⟩) hS (fun q _ h => hFc q h) hFc (fun u t H1 locs ht hvm hw hB hz1 hk1 hS => ?_)
        obtain ⟨hP1, hK1, hD1⟩ := hB
        rw [ht] at hP1
        obtain ⟨hP, hD⟩ := va_joinP (wr := []) (rx := [(h0, .inr (1, [va_rf (ap_fi (some z_20) (some z_18) q), va_rf (some q), .int (n + 1)]))]) (pl1 := va_pl L (pf cJ kd pi bd (ap_af af (some z_20) q) bo)) hP hD [0] [] rfl rfl (by decide) (by decide) hk1 hFc hP1 hD1
        generalize H1 = H at hP hS ⊢
        have hP : va_P D vwCl ([(h0, .inr (1, [va_rf (ap_fi (some z_20) (some z_18) q), va_rf (some q), .int (n + 1)]))] ++ va_pl L (pf cJ kd pi bd (ap_af af (some z_20) q) bo)) H := hP
        have hD : va_D A ([(h0, .inr (1, [va_rf (ap_fi (some z_20) (some z_18) q), va_rf (some q), .int (n + 1)]))] ++ va_pl L (pf cJ kd pi bd (ap_af af (some z_20) q) bo)) := hD
        refine W.widen (k := 0) (n := 0) (Nat.le_of_ble_eq_true rfl) (Nat.le_of_ble_eq_true rfl) ?_
        have hP9 : va_P D vwCl ([(h0, .inr (1, [va_rf (ap_fi (some z_20) (some z_18) q), va_rf (some q), .int (n + 1)]))] ++ va_pl L (pf cJ kd pi bd (ap_af af (some z_20) q) bo)) _ := hP
        have hD9 : va_D A ([(h0, .inr (1, [va_rf (ap_fi (some z_20) (some z_18) q), va_rf (some q), .int (n + 1)]))] ++ va_pl L (pf cJ kd pi bd (ap_af af (some z_20) q) bo)) := hD
        exact W.vret hx hb hr (fun t ht hW => ⟨⟨(), rfl, trivial, ⟨(ap_fi (some z_20) (some z_18) q), (some q), (ap_af af (some z_20) q), xs, [], ⟨(List.append_nil xs).symm, ch_append hch hnd hq, fun a h1 h2 => ap_out hch h1 h2, fun b hb => (by have h7 := Option.some.inj (hch.2.1.trans hb); have h6 := Int32.not_lt.mp c_26; rw [ex_23, ex_25] at h6; rw [← h7]; exact h6), fun c hc => (by cases hc)⟩, by rw [ht]; exact hP9, va_K.moved hW.alike hK, hD9⟩⟩, hS.F ht⟩) hS.2.2 dX1_putByDue_33
