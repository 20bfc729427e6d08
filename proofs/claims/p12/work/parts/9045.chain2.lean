def orn (n : Int32) : Int32 := if n = -1 then 2147483647 else n
abbrev FVt : Type := Nat → Nat → Nat → Int32
abbrev FJt : Type := Nat → Nat → Nat → Int64
abbrev BS : Type := (Nat → Int32) × (Nat → Int32) × FVt × FJt × (Option S4) × (List S3) × (List S4) × (List A6)

set_option maxHeartbeats 4000000 in
set_option maxRecDepth 100000 in
theorem s_takeDue2 (l : Launch) (D : va_G) (cI cJ cZ cO : ClassId) (sz : Nat) (h0 : Nat) (L : List Nat) (kd : Nat → Bool) (pi : Nat → Nat → Int32) (bd : Nat → Nat) (af : Nat → Option Nat) (bo : Nat → Nat → Int64) (fi la : Option Nat) (n : Int32) (w : Int32) (hfi : ∀ z, fi = some z → z ∈ L ∧ kd z = false) (hcl : ∀ a, fi = some a → ∀ b, af a = some b → b ∈ L ∧ kd b = false) : Met l yX1_takeDue (wa yX1_takeDue cX1_takeDue 2 (some (.object "CongestionBench$Parcel"))) ({ frames := 1, cells := 0, slots := 0, locals := 21 }) (va_Pc [.ref h0, .int w] (pw_s D cI cJ cZ cO sz ([(h0, .inr (1, [va_rf fi, va_rf la, .int n]))] ++ va_pl L (pf cJ kd pi bd af bo)))) (va_Qq (fun (r : Option Nat) (ub : Bool) => (r = cond ub fi none ∧ (ub = false → w < fdue pi fi) ∧ (ub = true → fdue pi fi ≤ w))) (fun (ub : Bool) (t : State) => pw_t D cI cJ cZ cO (va_A ([(h0, .inr (1, [va_rf fi, va_rf la, .int n]))] ++ va_pl L (pf cJ kd pi bd af bo)) sz) ([(h0, .inr (1, [va_rf (cond ub (tk_fi af fi) fi), va_rf (cond ub (tk_la af fi la) la), .int (cond ub (tk_n fi n) n)]))] ++ va_pl L (pf cJ kd pi bd (cond ub (tk_af af fi) af) bo)) t) (va_A ([(h0, .inr (1, [va_rf fi, va_rf la, .int n]))] ++ va_pl L (pf cJ kd pi bd af bo)) sz)) 0 0 (va_A ([(h0, .inr (1, [va_rf fi, va_rf la, .int n]))] ++ va_pl L (pf cJ kd pi bd af bo)) sz) := by
  refine Met.ofW (cc := cX1_takeDue) (maxL := 2) (ret := (some (.object "CongestionBench$Parcel"))) (by decide) rfl ?_
  intro p e s m args below meth c s₁ B hml hv
  obtain ⟨rfl, hsz, hP, hK, hD0, hN⟩ := hv
  have hx := B.exec
  have hb := B.bytes
  have hr := B.returns
  have hts := atoms_spec (ws := (wa yX1_takeDue cX1_takeDue 2 (some (.object "CongestionBench$Parcel")))) B.pre
  have ha : ∀ w ∈ wsL_law, w.before _ s = true := fun w h => hts w (List.mem_cons_of_mem _ h)
  have hown : s.vm.findClass RX1 = some m.cls := findClass_of_methodNamed B.named
  have hlocks := B.notSynchronized
  subst hsz
  have hD := hD0.self (sz := s.heap.size)
  generalize hAe : va_A ([(h0, .inr (1, [va_rf fi, va_rf la, .int n]))] ++ va_pl L (pf cJ kd pi bd af bo)) s.heap.size = A at hD ⊢
  have hA : ∀ q : Nat, s.heap.size ≤ q → A q := fun q h => by rw [← hAe]; exact Or.inr h
  have hS : va_S A s.heap s.heap [] := va_S.rf
  have hP : va_P D vwCl ([(h0, .inr (1, [va_rf fi, va_rf la, .int n]))] ++ va_pl L (pf cJ kd pi bd af bo)) s.heap := hP
  have hl := lv_entry ([.ref h0, .int w]) (n := 2) (Nat.le_of_ble_eq_true rfl)
  rw [lg_entry_eq]
  generalize (lg_sl ([.ref h0, .int w]) ++ List.replicate (2 - (lg_sl ([.ref h0, .int w])).length) Slot.unset).toArray = ls at hl ⊢
  have hl : lv_has ls 2 [(0, .ref h0), (1, .int w)] := hl
  -- from the entry
  refine lv_aload_n hx hb dX1_takeDue_0 rfl (lv_at hl 0 rfl) ?_
  have hPc := hP.part (X := [(h0, .inr (1, [va_rf fi, va_rf la, .int n]))]) (cx := [(h0, .inr (1, [va_rf fi, va_rf la, .int n]))]) (pl := va_pl L (pf cJ kd pi bd af bo)) [0] rfl
  have hDc := hD.part (X := [(h0, .inr (1, [va_rf fi, va_rf la, .int n]))]) (cx := [(h0, .inr (1, [va_rf fi, va_rf la, .int n]))]) (pl := va_pl L (pf cJ kd pi bd af bo)) [0] (by decide) rfl
  have hFc := va_freeP (X := [(h0, .inr (1, [va_rf fi, va_rf la, .int n]))]) (cx := [(h0, .inr (1, [va_rf fi, va_rf la, .int n]))]) (pl := va_pl L (pf cJ kd pi bd af bo)) hD hS hA [0] rfl
  refine va_calli (va_runV (As := []) (rest := []) ⟨hx, hb, hml, hown, ha⟩ (s_firstDue2 l D cI cJ cZ cO _ h0 L kd pi bd af bo fi la n hfi) (cwV 0 ha (gaV kl_X1_34 km_X1_firstDue ks_X1_firstDue kz_X1 kd_X1_firstDue) rfl rfl rfl (by decide +kernel) ⟨Nat.le_of_ble_eq_true rfl, Nat.le_of_ble_eq_true rfl⟩) ⟨pw_blind, va_recv hK hPc (ci := 1) (q0 := 0) rfl rfl, fun U hU hW => ⟨rfl, pw_start hU hW hPc hK hDc hN⟩⟩ rfl rfl hl.1 rfl (lv_room (Nat.le_of_ble_eq_true rfl)) dX1_takeDue_1 ⟨Nat.le_of_ble_eq_true rfl, Nat.le_of_ble_eq_true rfl⟩) hS (fun q _ h => hFc q h) hFc (fun r_4 u t H1 locs ht hvm hw hB hz1 hk1 hS => ?_)
  obtain ⟨hP1, hK1, hD1⟩ := hB
  rw [ht] at hP1
  obtain ⟨hP, hD⟩ := va_joinP (wr := []) (rx := [(h0, .inr (1, [va_rf fi, va_rf la, .int n]))]) (pl1 := va_pl L (pf cJ kd pi bd af bo)) hP hD [0] [] rfl rfl (by decide) (by decide) hk1 hFc hP1 hD1
  generalize H1 = H at hP hS ⊢
  have hP : va_P D vwCl ([(h0, .inr (1, [va_rf fi, va_rf la, .int n]))] ++ va_pl L (pf cJ kd pi bd af bo)) H := hP
  have hD : va_D A ([(h0, .inr (1, [va_rf fi, va_rf la, .int n]))] ++ va_pl L (pf cJ kd pi bd af bo)) := hD
  refine W.widen (k := 0) (n := 0) (Nat.le_of_ble_eq_true rfl) (Nat.le_of_ble_eq_true rfl) ?_
  have hr_4 := hw
  refine lv_iload_n hx hb dX1_takeDue_4 rfl (lv_at hl 1 rfl) ?_
  refine lv_icmp_gt (tgt := 15) hx hb dX1_takeDue_5 (by decide) (fun c_5 => ?_) (fun c_5 => ?_)
  · refine lv_null hx hb dX1_takeDue_15 ?_
    have hP9 : va_P D vwCl ([(h0, .inr (1, [va_rf (cond false (tk_fi af fi) fi), va_rf (cond false (tk_la af fi la) la), .int (cond false (tk_n fi n) n)]))] ++ va_pl L (pf cJ kd pi bd (cond false (tk_af af fi) af) bo)) _ := hP
    have hD9 : va_D A ([(h0, .inr (1, [va_rf (cond false (tk_fi af fi) fi), va_rf (cond false (tk_la af fi la) la), .int (cond false (tk_n fi n) n)]))] ++ va_pl L (pf cJ kd pi bd (cond false (tk_af af fi) af) bo)) := hD
    exact W.aret (v := .null) hx hb hr (Or.inl ⟨_, rfl⟩) (Or.inl rfl) (fun t ht hW => ⟨⟨none, false, rfl, ⟨rfl, (fun _ => by rw [← hr_4]; exact c_5), (fun h9 => by cases h9)⟩, ⟨by rw [ht]; exact hP9, va_K.moved hW.alike hK, hD9⟩⟩, hS.F ht⟩) hS.2.2 dX1_takeDue_16
  · refine lv_aload_n hx hb dX1_takeDue_8 rfl (lv_at hl 0 rfl) ?_
    have hPc := hP.part (X := [(h0, .inr (1, [va_rf fi, va_rf la, .int n]))]) (cx := [(h0, .inr (1, [va_rf fi, va_rf la, .int n]))]) (pl := va_pl L (pf cJ kd pi bd af bo)) [0] rfl
    have hDc := hD.part (X := [(h0, .inr (1, [va_rf fi, va_rf la, .int n]))]) (cx := [(h0, .inr (1, [va_rf fi, va_rf la, .int n]))]) (pl := va_pl L (pf cJ kd pi bd af bo)) [0] (by decide) rfl
    have hFc := va_freeP (X := [(h0, .inr (1, [va_rf fi, va_rf la, .int n]))]) (cx := [(h0, .inr (1, [va_rf fi, va_rf la, .int n]))]) (pl := va_pl L (pf cJ kd pi bd af bo)) hD hS hA [0] rfl
    refine va_callq (va_runV (As := []) (rest := []) ⟨hx, hb, hml, hown, ha⟩ (s_takeFirst l D cI cJ cZ cO _ h0 L kd pi bd af bo fi la n hfi hcl) (cwV 0 ha (gaV kl_X1_38 km_X1_takeFirst ks_X1_takeFirst kz_X1 kd_X1_takeFirst) rfl rfl rfl (by decide +kernel) ⟨Nat.le_of_ble_eq_true rfl, Nat.le_of_ble_eq_true rfl⟩) ⟨pw_blind, va_recv hK hPc (ci := 1) (q0 := 0) rfl rfl, fun U hU hW => ⟨rfl, pw_start hU hW hPc hK hDc hN⟩⟩ rfl rfl hl.1 rfl (lv_room (Nat.le_of_ble_eq_true rfl)) dX1_takeDue_9 ⟨Nat.le_of_ble_eq_true rfl, Nat.le_of_ble_eq_true rfl⟩) hS (fun q _ h => hFc q h) hFc (fun r_6 u t H1 locs ht hvm hw hB hz1 hk1 hS => ?_)
    obtain ⟨hP1, hK1, hD1⟩ := hB
    rw [ht] at hP1
    obtain ⟨hP, hD⟩ := va_joinP (wr := []) (rx := [(h0, .inr (1, [va_rf (tk_fi af fi), va_rf (tk_la af fi la), .int (tk_n fi n)]))]) (pl1 := va_pl L (pf cJ kd pi bd (tk_af af fi) bo)) hP hD [0] [] rfl rfl (by decide) (by decide) hk1 hFc hP1 hD1
    generalize H1 = H at hP hS ⊢
    have hP : va_P D vwCl ([(h0, .inr (1, [va_rf (tk_fi af fi), va_rf (tk_la af fi la), .int (tk_n fi n)]))] ++ va_pl L (pf cJ kd pi bd (tk_af af fi) bo)) H := hP
    have hD : va_D A ([(h0, .inr (1, [va_rf (tk_fi af fi), va_rf (tk_la af fi la), .int (tk_n fi n)]))] ++ va_pl L (pf cJ kd pi bd (tk_af af fi) bo)) := hD
    refine W.widen (k := 0) (n := 0) (Nat.le_of_ble_eq_true rfl) (Nat.le_of_ble_eq_true rfl) ?_
    obtain rfl : fi = r_6 := (hw).symm
    refine lv_goto (tgt := 16) hx hb dX1_takeDue_12 (by decide) ?_
    have hP9 : va_P D vwCl ([(h0, .inr (1, [va_rf (cond true (tk_fi af fi) fi), va_rf (cond true (tk_la af fi la) la), .int (cond true (tk_n fi n) n)]))] ++ va_pl L (pf cJ kd pi bd (cond true (tk_af af fi) af) bo)) _ := hP
    have hD9 : va_D A ([(h0, .inr (1, [va_rf (cond true (tk_fi af fi) fi), va_rf (cond true (tk_la af fi la) la), .int (cond true (tk_n fi n) n)]))] ++ va_pl L (pf cJ kd pi bd (cond true (tk_af af fi) af) bo)) := hD
    exact W.aret (v := va_rf fi) hx hb hr (Or.inl ⟨_, rfl⟩) (va_rf_or _) (fun t ht hW => ⟨⟨fi, true, rfl, ⟨rfl, (fun h9 => by cases h9), (fun _ => by rw [← hr_4]; exact Int32.not_lt.mp c_5)⟩, ⟨by rw [ht]; exact hP9, va_K.moved hW.alike hK, hD9⟩⟩, hS.F ht⟩) hS.2.2 dX1_takeDue_16
