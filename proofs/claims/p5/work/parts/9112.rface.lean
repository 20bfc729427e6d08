def isr (f F : Int32) : Int32 := if f < 0 then 0 else if F ≤ f then 0 else 1
theorem isr_in {f F : Int32} (h : ¬ isr f F = 0) : 0 ≤ f.toInt ∧ f.toInt < F.toInt := by
  unfold isr at h
  by_cases h1 : f < 0
  · rw [if_pos h1] at h; exact absurd rfl h
  · rw [if_neg h1] at h
    by_cases h2 : F ≤ f
    · rw [if_pos h2] at h; exact absurd rfl h
    · have a := Int32.le_iff_toInt_le.mp (Int32.not_lt.mp h1)
      have b := Int32.lt_iff_toInt_lt.mp (Int32.not_le.mp h2)
      rw [show (0 : Int32).toInt = 0 by decide] at a
      exact ⟨a, b⟩
def rsn (F : Int32) (al : Nat → Int32) (f g : Int32) : Int32 := if isr f F = 0 then -1 else if wi g 1 100000 = 0 then -1 else if al f.toNatClampNeg + g ≤ 1000000 then al f.toNatClampNeg + g else -1
def rsa (F : Int32) (al : Nat → Int32) (f g : Int32) : Nat → Int32 := if isr f F = 0 then al else if wi g 1 100000 = 0 then al else if al f.toNatClampNeg + g ≤ 1000000 then upd al f.toNatClampNeg (al f.toNatClampNeg + g) else al
def rwn (F : Int32) (wn : Nat → Int32) (f g : Int32) : Int32 := if isr f F = 0 then -1 else if wi g 0 200 = 0 then -1 else wn f.toNatClampNeg
def rwa (F : Int32) (wn : Nat → Int32) (f g : Int32) : Nat → Int32 := if isr f F = 0 then wn else if wi g 0 200 = 0 then wn else upd wn f.toNatClampNeg g

set_option maxHeartbeats 4000000 in
set_option maxRecDepth 100000 in
theorem m_isFlow2 (l : Launch) (D : va_G) (cI cJ cZ cO : ClassId) (sz : Nat) (h0 : Nat) (mq : Nat → Nat) (mi : Nat → Int32) (ma : Nat → Nat → Int32) (ph : Nat) (cl : Int) (f : Int32) (hI : MB mi ma) : Met l yX11_isFlow (wa yX11_isFlow cX11_isFlow 2 (some .boolean)) ({ frames := 0, cells := 0, slots := 0, locals := 0 }) (va_Pc [.ref h0, .int f] (pw_s D cI cJ cZ cO sz (mw cI cZ h0 mq mi ma))) (va_Qi (fun (r : Int32) (_ : Unit) => r = isr f (mi 32)) (fun (_ : Unit) (t : State) => ∃ (mi2 : Nat → Int32) (ma2 : Nat → Nat → Int32), (MB mi2 ma2 ∧ (∀ k, k ∉ ([] : List Nat) → mi2 k = mi k) ∧ (∀ k, k ∉ ([] : List Nat) → ma2 k = ma k)) ∧ pw_t D cI cJ cZ cO (va_A (mw cI cZ h0 mq mi ma) sz) (mw cI cZ h0 mq mi2 ma2) t) (va_A (mw cI cZ h0 mq mi ma) sz)) 0 0 (va_A (mw cI cZ h0 mq mi ma) sz) := by
  refine Met.ofW (cc := cX11_isFlow) (maxL := 2) (ret := (some .boolean)) (by decide) rfl ?_
  intro p e s m args below meth c s₁ B hml hv
  obtain ⟨rfl, hsz, hP, hK, hD0, hN⟩ := hv
  have hx := B.exec
  have hb := B.bytes
  have hr := B.returns
  have hts := atoms_spec (ws := (wa yX11_isFlow cX11_isFlow 2 (some .boolean))) B.pre
  have ha : ∀ w ∈ wsL_law, w.before _ s = true := fun w h => hts w (List.mem_cons_of_mem _ h)
  have hown : s.vm.findClass RX11 = some m.cls := findClass_of_methodNamed B.named
  have hlocks := B.notSynchronized
  subst hsz
  have hD := hD0.self (sz := s.heap.size)
  generalize hAe : va_A (mw cI cZ h0 mq mi ma) s.heap.size = A at hD ⊢
  have hA : ∀ q : Nat, s.heap.size ≤ q → A q := fun q h => by rw [← hAe]; exact Or.inr h
  have hS : va_S A s.heap s.heap [] := va_S.rf
  have hP : va_P D vwCl (mw cI cZ h0 mq mi ma) s.heap := hP
  have hl := lv_entry ([.ref h0, .int f]) (n := 2) (Nat.le_of_ble_eq_true rfl)
  rw [lg_entry_eq]
  generalize (lg_sl ([.ref h0, .int f]) ++ List.replicate (2 - (lg_sl ([.ref h0, .int f])).length) Slot.unset).toArray = ls at hl ⊢
  have hl : lv_has ls 2 [(0, .ref h0), (1, .int f)] := hl
  have kc_m1 := tk_m1
  have kc_0 := tk_0
  have kc_1 := tk_1
  obtain ⟨mi0, hmi0⟩ : ∃ y, y = mi := ⟨_, rfl⟩
  obtain ⟨ma0, hma0⟩ : ∃ y, y = ma := ⟨_, rfl⟩
  have hFI : ∀ k, k ∉ ([] : List Nat) → mi k = mi0 k := fun k _ => by rw [hmi0]
  have hFA : ∀ k, k ∉ ([] : List Nat) → ma k = ma0 k := fun k _ => by rw [hma0]
  obtain ⟨QP, hQP⟩ : ∃ y : State → Prop, y = (MQ below (va_Qi (fun (r : Int32) (_ : Unit) => r = isr f (mi 32)) (fun (_ : Unit) (t : State) => ∃ (mi2 : Nat → Int32) (ma2 : Nat → Nat → Int32), (MB mi2 ma2 ∧ (∀ k, k ∉ ([] : List Nat) → mi2 k = mi k) ∧ (∀ k, k ∉ ([] : List Nat) → ma2 k = ma k)) ∧ pw_t D cI cJ cZ cO A (mw cI cZ h0 mq mi2 ma2) t) A) #[(.ref h0 : Value), (.int f : Value)] s 0 0 A) := ⟨_, rfl⟩
  -- from the entry
  refine lv_iload_n hx hb dX11_isFlow_0 rfl (lv_at hl 1 rfl) ?_
  refine lv_if_lt (tgt := 16) hx hb dX11_isFlow_1 (by decide) (fun c_1 => ?_) (fun c_1 => ?_)
  · have t_c_1 := Int32.lt_iff_toInt_lt.mp c_1
    refine lv_iconst (v := 0) hx hb dX11_isFlow_16 (by decide) ?_
    exact W.zret (v := 0) hx hb hr rfl (fun t ht hW => ⟨⟨0, (), rfl, by simp [isr, c_1], ⟨mi, ma, ⟨hI, fun k hk => (hFI k hk).trans (by rw [hmi0]), fun k hk => (hFA k hk).trans (by rw [hma0])⟩, by rw [ht]; exact hP, va_K.moved hW.alike hK, hD⟩⟩, hS.F ht⟩) hS.2.2 dX11_isFlow_17
  · have t_c_1 := Int32.le_iff_toInt_le.mp (Int32.not_lt.mp c_1)
    refine lv_iload_n hx hb dX11_isFlow_4 rfl (lv_at hl 1 rfl) ?_
    refine lv_aload_n hx hb dX11_isFlow_5 rfl (lv_at hl 0 rfl) ?_
    refine va_get (D := D) (ci := 11) (v := .int (mi 32)) (C := RX11) (T := TX11) (N := 74) hx hb ha inlX11 hown hK hP 0 mw_at0 rfl 32 (by decide) (ha _ kf_X11_191) (fun _ h9 => h9) rfl dX11_isFlow_6 ?_
    refine lv_topi (fun x_2 ex_2 => ?_)
    have u_x_2 := congrArg Int32.toInt ex_2
    have r_x_2 := MB_flows hI
    rw [← ex_2] at r_x_2
    refine lv_icmp_ge (tgt := 16) hx hb dX11_isFlow_9 (by decide) (fun c_3 => ?_) (fun c_3 => ?_)
    · have t_c_3 := Int32.le_iff_toInt_le.mp c_3
      refine lv_iconst (v := 0) hx hb dX11_isFlow_16 (by decide) ?_
      exact W.zret (v := 0) hx hb hr rfl (fun t ht hW => ⟨⟨0, (), rfl, by simp [isr, ← ex_2, c_1, c_3], ⟨mi, ma, ⟨hI, fun k hk => (hFI k hk).trans (by rw [hmi0]), fun k hk => (hFA k hk).trans (by rw [hma0])⟩, by rw [ht]; exact hP, va_K.moved hW.alike hK, hD⟩⟩, hS.F ht⟩) hS.2.2 dX11_isFlow_17
    · have t_c_3 := Int32.lt_iff_toInt_lt.mp (Int32.not_le.mp c_3)
      refine lv_iconst (v := 1) hx hb dX11_isFlow_12 (by decide) ?_
      refine lv_goto (tgt := 17) hx hb dX11_isFlow_13 (by decide) ?_
      exact W.zret (v := 1) hx hb hr rfl (fun t ht hW => ⟨⟨1, (), rfl, by simp [isr, ← ex_2, c_1, c_3], ⟨mi, ma, ⟨hI, fun k hk => (hFI k hk).trans (by rw [hmi0]), fun k hk => (hFA k hk).trans (by rw [hma0])⟩, by rw [ht]; exact hP, va_K.moved hW.alike hK, hD⟩⟩, hS.F ht⟩) hS.2.2 dX11_isFlow_17

set_option maxHeartbeats 4000000 in
set_option maxRecDepth 100000 in
theorem m_send2 (l : Launch) (D : va_G) (cI cJ cZ cO : ClassId) (sz : Nat) (h0 : Nat) (mq : Nat → Nat) (mi : Nat → Int32) (ma : Nat → Nat → Int32) (ph : Nat) (cl : Int) (f g : Int32) (hI : MI ph cl mi ma) : Met l yX11_send (wa yX11_send cX11_send 3 (some .int)) ({ frames := 1, cells := 0, slots := 0, locals := 22 }) (va_Pc [.ref h0, .int f, .int g] (pw_s D cI cJ cZ cO sz (mw cI cZ h0 mq mi ma))) (va_Qi (fun (r : Int32) (_ : Unit) => r = rsn (mi 32) (ma 43) f g) (fun (_ : Unit) (t : State) => ∃ (mi2 : Nat → Int32) (ma2 : Nat → Nat → Int32), (MI ph cl mi2 ma2 ∧ (∀ k, k ∉ ([] : List Nat) → mi2 k = mi k) ∧ (∀ k, k ∉ ([43] : List Nat) → ma2 k = ma k) ∧ ma2 43 = rsa (mi 32) (ma 43) f g) ∧ pw_t D cI cJ cZ cO (va_A (mw cI cZ h0 mq mi ma) sz) (mw cI cZ h0 mq mi2 ma2) t) (va_A (mw cI cZ h0 mq mi ma) sz)) 0 0 (va_A (mw cI cZ h0 mq mi ma) sz) := by
  refine Met.ofW (cc := cX11_send) (maxL := 3) (ret := (some .int)) (by decide) rfl ?_
  intro p e s m args below meth c s₁ B hml hv
  obtain ⟨rfl, hsz, hP, hK, hD0, hN⟩ := hv
  have hx := B.exec
  have hb := B.bytes
  have hr := B.returns
  have hts := atoms_spec (ws := (wa yX11_send cX11_send 3 (some .int))) B.pre
  have ha : ∀ w ∈ wsL_law, w.before _ s = true := fun w h => hts w (List.mem_cons_of_mem _ h)
  have hown : s.vm.findClass RX11 = some m.cls := findClass_of_methodNamed B.named
  have hlocks := B.notSynchronized
  subst hsz
  have hD := hD0.self (sz := s.heap.size)
  generalize hAe : va_A (mw cI cZ h0 mq mi ma) s.heap.size = A at hD ⊢
  have hA : ∀ q : Nat, s.heap.size ≤ q → A q := fun q h => by rw [← hAe]; exact Or.inr h
  have hS : va_S A s.heap s.heap [] := va_S.rf
  have hP : va_P D vwCl (mw cI cZ h0 mq mi ma) s.heap := hP
  have hl := lv_entry ([.ref h0, .int f, .int g]) (n := 3) (Nat.le_of_ble_eq_true rfl)
  rw [lg_entry_eq]
  generalize (lg_sl ([.ref h0, .int f, .int g]) ++ List.replicate (3 - (lg_sl ([.ref h0, .int f, .int g])).length) Slot.unset).toArray = ls at hl ⊢
  have hl : lv_has ls 3 [(0, .ref h0), (1, .int f), (2, .int g)] := hl
  have kc_m1 := tk_m1
  have kc_0 := tk_0
  have kc_1 := tk_1
  have kc_100000 := tk_100000
  have kc_1000000 := tk_1000000
  obtain ⟨mi0, hmi0⟩ : ∃ y, y = mi := ⟨_, rfl⟩
  obtain ⟨ma0, hma0⟩ : ∃ y, y = ma := ⟨_, rfl⟩
  have hFI : ∀ k, k ∉ ([] : List Nat) → mi k = mi0 k := fun k _ => by rw [hmi0]
  have hFA : ∀ k, k ∉ ([43] : List Nat) → ma k = ma0 k := fun k _ => by rw [hma0]
  obtain ⟨QP, hQP⟩ : ∃ y : State → Prop, y = (MQ below (va_Qi (fun (r : Int32) (_ : Unit) => r = rsn (mi 32) (ma 43) f g) (fun (_ : Unit) (t : State) => ∃ (mi2 : Nat → Int32) (ma2 : Nat → Nat → Int32), (MI ph cl mi2 ma2 ∧ (∀ k, k ∉ ([] : List Nat) → mi2 k = mi k) ∧ (∀ k, k ∉ ([43] : List Nat) → ma2 k = ma k) ∧ ma2 43 = rsa (mi 32) (ma 43) f g) ∧ pw_t D cI cJ cZ cO A (mw cI cZ h0 mq mi2 ma2) t) A) #[(.ref h0 : Value), (.int f : Value), (.int g : Value)] s 0 0 A) := ⟨_, rfl⟩
  -- from the entry
  refine lv_aload_n hx hb dX11_send_0 rfl (lv_at hl 0 rfl) ?_
  refine lv_iload_n hx hb dX11_send_1 rfl (lv_at hl 1 rfl) ?_
  have hFc := va_freeW hD hS hA
  refine va_calli (va_runV (As := [.int f]) (rest := []) ⟨hx, hb, hml, hown, ha⟩ (m_isFlow2 l D cI cJ cZ cO _ h0 mq mi ma ph cl f hI.1) (cwV 1 ha (gaV kl_X11_195 km_X11_isFlow ks_X11_isFlow kz_X11 kd_X11_isFlow) rfl rfl rfl (by decide +kernel) ⟨Nat.le_of_ble_eq_true rfl, Nat.le_of_ble_eq_true rfl⟩) ⟨pw_blind, va_recv hK hP (ci := 11) (q0 := 0) rfl rfl, fun U hU hW => ⟨rfl, pw_start hU hW hP hK hD hN⟩⟩ rfl rfl hl.1 rfl (lv_room (Nat.le_of_ble_eq_true rfl)) dX11_send_2 ⟨Nat.le_of_ble_eq_true rfl, Nat.le_of_ble_eq_true rfl⟩) hS (fun q _ h => hFc q h) hFc (fun r_1 u t H1 locs ht hvm hw hB hz1 hk1 hS => ?_)
  obtain ⟨mi_2, ma_3, hf_4, hP, hK1, hD1⟩ := hB
  rw [ht] at hP
  have hD := hD1.weaken (fun k q _ h => hFc q.1 h)
  clear hD1
  generalize H1 = H at hP hS ⊢
  refine W.widen (k := 0) (n := 0) (Nat.le_refl _) (Nat.le_refl _) ?_
  have hI : MI ph cl mi_2 ma_3 := ⟨hf_4.1, due_keep hI.2 (hf_4.2.1 4 (by decide)) (hf_4.2.1 10 (by decide)) (hf_4.2.1 11 (by decide)) (hf_4.2.1 12 (by decide)) (hf_4.2.1 17 (by decide)) (hf_4.2.1 18 (by decide)) (hf_4.2.1 19 (by decide)) (hf_4.2.2 13 (by decide)) (hf_4.2.2 20 (by decide)) (hf_4.2.2 40 (by decide)) (hf_4.2.2 41 (by decide))⟩
  have hFI : ∀ k, k ∉ ([] : List Nat) → mi_2 k = mi0 k := fun k hk => (hf_4.2.1 k (fun h => hk (by revert h; exact sub_of (by decide) k))).trans (hFI k hk)
  have hFA : ∀ k, k ∉ ([43] : List Nat) → ma_3 k = ma0 k := fun k hk => (hf_4.2.2 k (fun h => hk (by revert h; exact sub_of (by decide) k))).trans (hFA k hk)
  have hr_1 := hw
  refine lv_if_eq (tgt := 31) hx hb dX11_send_5 (by decide) (fun c_5 => ?_) (fun c_5 => ?_)
  · have t_c_5 := congrArg Int32.toInt c_5
    refine lv_iconst (v := (-1)) hx hb dX11_send_31 (by decide) ?_
    exact W.iret (v := (-1)) hx hb hr (fun t ht hW => ⟨⟨(-1), (), rfl, by simp [rsn, ← hr_1, c_5], ⟨mi_2, ma_3, ⟨hI, fun k hk => (hFI k hk).trans (by rw [hmi0]), fun k hk => (hFA k hk).trans (by rw [hma0]), (by rw [hf_4.2.2 43 (by decide)]; simp [rsa, ← hr_1, c_5])⟩, by rw [ht]; exact hP, va_K.moved hW.alike hK, hD⟩⟩, hS.F ht⟩) hS.2.2 dX11_send_32
  · have t_c_5 := mt Int32.toInt_inj.mp c_5
    have hif := isr_in (fun q => c_5 (hr_1.trans q))
    have hf0 := hif.1
    have hF4 := (MB_flows hI.1).2
    have hfw : f.toInt < (mi_2 32).toInt := by rw [hf_4.2.1 32 (by decide)]; exact hif.2
    have hf4 : f.toInt < 4 := by omega
    refine lv_iload_n hx hb dX11_send_8 rfl (lv_at hl 2 rfl) ?_
    refine lv_iconst (v := 1) hx hb dX11_send_9 (by decide) ?_
    refine lv_ldc (v := 100000) hx hb hown (ha _ kk_X11_199) dX11_send_10 ?_
    have hFc := va_free (wc := []) hD hS hA [] rfl
    refine va_calli (va_runS (As := [.int g, .int 1, .int 100000]) (rest := []) ⟨hx, hb, hml, hown, ha⟩ (c_in l D cI cJ cZ cO _ g 1 100000) (va_cwS 3 ha (gaS kl_X11_187 kt_X11_in kz_X11 kd_X11_in) rfl rfl rfl (by decide +kernel) ⟨Nat.le_of_ble_eq_true rfl, Nat.le_of_ble_eq_true rfl⟩) ⟨pw_blind, fun U hU hW => ⟨rfl, pw_start hU hW pw_P0 hK (pw_D0 (A := A)) hN⟩⟩ rfl rfl hl.1 rfl (lv_room (Nat.le_of_ble_eq_true rfl)) dX11_send_12 ⟨Nat.le_of_ble_eq_true rfl, Nat.le_of_ble_eq_true rfl⟩) hS (fun q _ h => hFc q h) hFc (fun r_6 u t H1 locs ht hvm hw hB hz1 hk1 hS => ?_)
    have hP := va_keep0 hP hk1
    generalize H1 = H at hP hS ⊢
    refine W.widen (k := 0) (n := 0) (Nat.le_refl _) (Nat.le_refl _) ?_
    have hr_6 : r_6 = wi g 1 100000 := hw
    refine lv_if_eq (tgt := 31) hx hb dX11_send_15 (by decide) (fun c_7 => ?_) (fun c_7 => ?_)
    · have t_c_7 := congrArg Int32.toInt c_7
      refine lv_iconst (v := (-1)) hx hb dX11_send_31 (by decide) ?_
      exact W.iret (v := (-1)) hx hb hr (fun t ht hW => ⟨⟨(-1), (), rfl, by simp [rsn, ← hr_1, ← hr_6, c_5, c_7], ⟨mi_2, ma_3, ⟨hI, fun k hk => (hFI k hk).trans (by rw [hmi0]), fun k hk => (hFA k hk).trans (by rw [hma0]), (by rw [hf_4.2.2 43 (by decide)]; simp [rsa, ← hr_1, ← hr_6, c_5, c_7])⟩, by rw [ht]; exact hP, va_K.moved hW.alike hK, hD⟩⟩, hS.F ht⟩) hS.2.2 dX11_send_32
    · have t_c_7 := mt Int32.toInt_inj.mp c_7
      have w_r_6 := wi_ti (by rw [← hr_6]; exact c_7)
      refine lv_aload_n hx hb dX11_send_18 rfl (lv_at hl 0 rfl) ?_
      refine va_get (D := D) (ci := 11) (v := .ref (mq 43)) (C := RX11) (T := TX11) (N := 74) hx hb ha inlX11 hown hK hP 0 mw_at0 rfl 43 (by decide) (ha _ kf_X11_97) (fun _ h9 => h9) rfl dX11_send_19 ?_
      refine lv_iload_n hx hb dX11_send_22 rfl (lv_at hl 1 rfl) ?_
      have hin_8 : vp_in f 4 := vpi_of (by omega) (by omega)
      refine va_iald hx hb hK hP 25 0 mw_at43 rfl hin_8 dX11_send_23 ?_
      refine lv_topi (fun x_9 ex_9 => ?_)
      have u_x_9 := congrArg Int32.toInt ex_9
      have r_x_9 := rg_ld (MI_all hI) hin_8 ex_9
      refine lv_iload_n hx hb dX11_send_24 rfl (lv_at hl 2 rfl) ?_
      refine lv_iadd hx hb dX11_send_25 ?_
      refine lv_topi (fun x_10 ex_10 => ?_)
      try have t_x_10 := ti_add ex_10 (by omega) (by omega)
      refine lv_ldc (v := 1000000) hx hb hown (ha _ kk_X11_200) dX11_send_26 ?_
      refine lv_icmp_le (tgt := 33) hx hb dX11_send_28 (by decide) (fun c_11 => ?_) (fun c_11 => ?_)
      · have t_c_11 := Int32.le_iff_toInt_le.mp c_11
        refine lv_aload_n hx hb dX11_send_33 rfl (lv_at hl 0 rfl) ?_
        refine va_get (D := D) (ci := 11) (v := .ref (mq 43)) (C := RX11) (T := TX11) (N := 74) hx hb ha inlX11 hown hK hP 0 mw_at0 rfl 43 (by decide) (ha _ kf_X11_97) (fun _ h9 => h9) rfl dX11_send_34 ?_
        refine lv_iload_n hx hb dX11_send_37 rfl (lv_at hl 1 rfl) ?_
        refine lv_dup2_11 hx hb dX11_send_38 rfl rfl ?_
        have hin_12 : vp_in f 4 := vpi_of (by omega) (by omega)
        refine va_iald hx hb hK hP 25 0 mw_at43 rfl hin_12 dX11_send_39 ?_
        refine lv_topi (fun x_13 ex_13 => ?_)
        have u_x_13 := congrArg Int32.toInt ex_13
        have r_x_13 := rg_ld (MI_all hI) hin_12 ex_13
        refine lv_iload_n hx hb dX11_send_40 rfl (lv_at hl 2 rfl) ?_
        refine lv_iadd hx hb dX11_send_41 ?_
        refine lv_topi (fun x_14 ex_14 => ?_)
        try have t_x_14 := ti_add ex_14 (by omega) (by omega)
        have hin_15 : vp_in f 4 := vpi_of (by omega) (by omega)
        refine va_iast hx hb hK hP hD hS 25 0 mw_at43 rfl hin_15 dX11_send_42 (fun H locs hP hD hS => ?_)
        have hP : va_P D vwCl (mw cI cZ h0 mq mi_2 (va_up ma_3 43 (upd (ma_3 43) f.toNatClampNeg x_14))) H := mwP_43 hP
        have hD : va_D A (mw cI cZ h0 mq mi_2 (va_up ma_3 43 (upd (ma_3 43) f.toNatClampNeg x_14))) := mwD_43 hD
        generalize hma_16 : va_up ma_3 43 (upd (ma_3 43) f.toNatClampNeg x_14) = ma_16 at hP hD
        have hI : MI ph cl mi_2 ma_16 := by rw [← hma_16]; exact MIa_all hI (by omega) (by omega)
        have hFA : ∀ k, k ∉ ([43] : List Nat) → ma_16 k = ma0 k := fun k hk => by rw [← hma_16]; exact (va_up_ne _ _ (fun e => hk (by rw [e]; decide))).trans (hFA k hk)
        have z43 : ma_16 43 = upd (ma_3 43) f.toNatClampNeg x_14 := mu_eq (k := 43) hma_16
        refine lv_aload_n hx hb dX11_send_43 rfl (lv_at hl 0 rfl) ?_
        refine va_get (D := D) (ci := 11) (v := .ref (mq 43)) (C := RX11) (T := TX11) (N := 74) hx hb ha inlX11 hown hK hP 0 mw_at0 rfl 43 (by decide) (ha _ kf_X11_97) (fun _ h9 => h9) rfl dX11_send_44 ?_
        refine lv_iload_n hx hb dX11_send_47 rfl (lv_at hl 1 rfl) ?_
        have hin_17 : vp_in f 4 := vpi_of (by omega) (by omega)
        refine va_iald hx hb hK hP 25 0 mw_at43 rfl hin_17 dX11_send_48 ?_
        refine lv_topi (fun x_18 ex_18 => ?_)
        have u_x_18 := congrArg Int32.toInt ex_18
        have r_x_18 := rg_ld (MI_all hI) hin_17 ex_18
        exact W.iret (v := x_18) hx hb hr (fun t ht hW => ⟨⟨x_18, (), rfl, (by rw [rsn, if_neg (fun q => c_5 (hr_1.trans q)), if_neg (fun q => c_7 (hr_6.trans q)), if_pos (by rw [← hf_4.2.2 43 (by decide), ← ex_9, ← ex_10]; exact c_11), ex_18, z43, up_self, ex_14, ex_13, hf_4.2.2 43 (by decide)]), ⟨mi_2, ma_16, ⟨hI, fun k hk => (hFI k hk).trans (by rw [hmi0]), fun k hk => (hFA k hk).trans (by rw [hma0]), (by rw [z43, rsa, if_neg (fun q => c_5 (hr_1.trans q)), if_neg (fun q => c_7 (hr_6.trans q)), if_pos (by rw [← hf_4.2.2 43 (by decide), ← ex_9, ← ex_10]; exact c_11), ex_14, ex_13, hf_4.2.2 43 (by decide)])⟩, by rw [ht]; exact hP, va_K.moved hW.alike hK, hD⟩⟩, hS.F ht⟩) hS.2.2 dX11_send_49
      · have t_c_11 := Int32.lt_iff_toInt_lt.mp (Int32.not_le.mp c_11)
        refine lv_iconst (v := (-1)) hx hb dX11_send_31 (by decide) ?_
        exact W.iret (v := (-1)) hx hb hr (fun t ht hW => ⟨⟨(-1), (), rfl, (by rw [rsn, if_neg (fun q => c_5 (hr_1.trans q)), if_neg (fun q => c_7 (hr_6.trans q)), if_neg (fun q => c_11 (by rw [ex_10, ex_9, hf_4.2.2 43 (by decide)]; exact q))]), ⟨mi_2, ma_3, ⟨hI, fun k hk => (hFI k hk).trans (by rw [hmi0]), fun k hk => (hFA k hk).trans (by rw [hma0]), (by rw [hf_4.2.2 43 (by decide), rsa, if_neg (fun q => c_5 (hr_1.trans q)), if_neg (fun q => c_7 (hr_6.trans q)), if_neg (fun q => c_11 (by rw [ex_10, ex_9, hf_4.2.2 43 (by decide)]; exact q))])⟩, by rw [ht]; exact hP, va_K.moved hW.alike hK, hD⟩⟩, hS.F ht⟩) hS.2.2 dX11_send_32

set_option maxHeartbeats 4000000 in
set_option maxRecDepth 100000 in
theorem m_window2 (l : Launch) (D : va_G) (cI cJ cZ cO : ClassId) (sz : Nat) (h0 : Nat) (mq : Nat → Nat) (mi : Nat → Int32) (ma : Nat → Nat → Int32) (ph : Nat) (cl : Int) (f g : Int32) (hI : MI ph (cl + 1) mi ma) : Met l yX11_window (wa yX11_window cX11_window 4 (some .int)) ({ frames := 1, cells := 0, slots := 0, locals := 22 }) (va_Pc [.ref h0, .int f, .int g] (pw_s D cI cJ cZ cO sz (mw cI cZ h0 mq mi ma))) (va_Qi (fun (r : Int32) (_ : Unit) => r = rwn (mi 32) (ma 35) f g) (fun (_ : Unit) (t : State) => ∃ (mi2 : Nat → Int32) (ma2 : Nat → Nat → Int32), (MI ph cl mi2 ma2 ∧ (∀ k, k ∉ ([] : List Nat) → mi2 k = mi k) ∧ (∀ k, k ∉ ([35, 41] : List Nat) → ma2 k = ma k) ∧ ma2 35 = rwa (mi 32) (ma 35) f g) ∧ pw_t D cI cJ cZ cO (va_A (mw cI cZ h0 mq mi ma) sz) (mw cI cZ h0 mq mi2 ma2) t) (va_A (mw cI cZ h0 mq mi ma) sz)) 0 0 (va_A (mw cI cZ h0 mq mi ma) sz) := by
  refine Met.ofW (cc := cX11_window) (maxL := 4) (ret := (some .int)) (by decide) rfl ?_
  intro p e s m args below meth c s₁ B hml hv
  obtain ⟨rfl, hsz, hP, hK, hD0, hN⟩ := hv
  have hx := B.exec
  have hb := B.bytes
  have hr := B.returns
  have hts := atoms_spec (ws := (wa yX11_window cX11_window 4 (some .int))) B.pre
  have ha : ∀ w ∈ wsL_law, w.before _ s = true := fun w h => hts w (List.mem_cons_of_mem _ h)
  have hown : s.vm.findClass RX11 = some m.cls := findClass_of_methodNamed B.named
  have hlocks := B.notSynchronized
  subst hsz
  have hD := hD0.self (sz := s.heap.size)
  generalize hAe : va_A (mw cI cZ h0 mq mi ma) s.heap.size = A at hD ⊢
  have hA : ∀ q : Nat, s.heap.size ≤ q → A q := fun q h => by rw [← hAe]; exact Or.inr h
  have hS : va_S A s.heap s.heap [] := va_S.rf
  have hP : va_P D vwCl (mw cI cZ h0 mq mi ma) s.heap := hP
  have hl := lv_entry ([.ref h0, .int f, .int g]) (n := 4) (Nat.le_of_ble_eq_true rfl)
  rw [lg_entry_eq]
  generalize (lg_sl ([.ref h0, .int f, .int g]) ++ List.replicate (4 - (lg_sl ([.ref h0, .int f, .int g])).length) Slot.unset).toArray = ls at hl ⊢
  have hl : lv_has ls 4 [(0, .ref h0), (1, .int f), (2, .int g)] := hl
  have kc_m1 := tk_m1
  have kc_0 := tk_0
  have kc_1 := tk_1
  have kc_200 := tk_200
  obtain ⟨mi0, hmi0⟩ : ∃ y, y = mi := ⟨_, rfl⟩
  obtain ⟨ma0, hma0⟩ : ∃ y, y = ma := ⟨_, rfl⟩
  have hFI : ∀ k, k ∉ ([] : List Nat) → mi k = mi0 k := fun k _ => by rw [hmi0]
  have hFA : ∀ k, k ∉ ([35, 41] : List Nat) → ma k = ma0 k := fun k _ => by rw [hma0]
  obtain ⟨QP, hQP⟩ : ∃ y : State → Prop, y = (MQ below (va_Qi (fun (r : Int32) (_ : Unit) => r = rwn (mi 32) (ma 35) f g) (fun (_ : Unit) (t : State) => ∃ (mi2 : Nat → Int32) (ma2 : Nat → Nat → Int32), (MI ph cl mi2 ma2 ∧ (∀ k, k ∉ ([] : List Nat) → mi2 k = mi k) ∧ (∀ k, k ∉ ([35, 41] : List Nat) → ma2 k = ma k) ∧ ma2 35 = rwa (mi 32) (ma 35) f g) ∧ pw_t D cI cJ cZ cO A (mw cI cZ h0 mq mi2 ma2) t) A) #[(.ref h0 : Value), (.int f : Value), (.int g : Value)] s 0 0 A) := ⟨_, rfl⟩
  -- from the entry
  refine lv_aload_n hx hb dX11_window_0 rfl (lv_at hl 0 rfl) ?_
  refine lv_iload_n hx hb dX11_window_1 rfl (lv_at hl 1 rfl) ?_
  have hFc := va_freeW hD hS hA
  refine va_calli (va_runV (As := [.int f]) (rest := []) ⟨hx, hb, hml, hown, ha⟩ (m_isFlow2 l D cI cJ cZ cO _ h0 mq mi ma ph (cl + 1) f hI.1) (cwV 1 ha (gaV kl_X11_195 km_X11_isFlow ks_X11_isFlow kz_X11 kd_X11_isFlow) rfl rfl rfl (by decide +kernel) ⟨Nat.le_of_ble_eq_true rfl, Nat.le_of_ble_eq_true rfl⟩) ⟨pw_blind, va_recv hK hP (ci := 11) (q0 := 0) rfl rfl, fun U hU hW => ⟨rfl, pw_start hU hW hP hK hD hN⟩⟩ rfl rfl hl.1 rfl (lv_room (Nat.le_of_ble_eq_true rfl)) dX11_window_2 ⟨Nat.le_of_ble_eq_true rfl, Nat.le_of_ble_eq_true rfl⟩) hS (fun q _ h => hFc q h) hFc (fun r_1 u t H1 locs ht hvm hw hB hz1 hk1 hS => ?_)
  obtain ⟨mi_2, ma_3, hf_4, hP, hK1, hD1⟩ := hB
  rw [ht] at hP
  have hD := hD1.weaken (fun k q _ h => hFc q.1 h)
  clear hD1
  generalize H1 = H at hP hS ⊢
  refine W.widen (k := 0) (n := 0) (Nat.le_refl _) (Nat.le_refl _) ?_
  have hI : MI ph (cl + 1) mi_2 ma_3 := ⟨hf_4.1, due_keep hI.2 (hf_4.2.1 4 (by decide)) (hf_4.2.1 10 (by decide)) (hf_4.2.1 11 (by decide)) (hf_4.2.1 12 (by decide)) (hf_4.2.1 17 (by decide)) (hf_4.2.1 18 (by decide)) (hf_4.2.1 19 (by decide)) (hf_4.2.2 13 (by decide)) (hf_4.2.2 20 (by decide)) (hf_4.2.2 40 (by decide)) (hf_4.2.2 41 (by decide))⟩
  have hFI : ∀ k, k ∉ ([] : List Nat) → mi_2 k = mi0 k := fun k hk => (hf_4.2.1 k (fun h => hk (by revert h; exact sub_of (by decide) k))).trans (hFI k hk)
  have hFA : ∀ k, k ∉ ([35, 41] : List Nat) → ma_3 k = ma0 k := fun k hk => (hf_4.2.2 k (fun h => hk (by revert h; exact sub_of (by decide) k))).trans (hFA k hk)
  have hr_1 := hw
  refine lv_if_eq (tgt := 19) hx hb dX11_window_5 (by decide) (fun c_5 => ?_) (fun c_5 => ?_)
  · have t_c_5 := congrArg Int32.toInt c_5
    refine lv_iconst (v := (-1)) hx hb dX11_window_19 (by decide) ?_
    have hI := MI_cl hI
    exact W.iret (v := (-1)) hx hb hr (fun t ht hW => ⟨⟨(-1), (), rfl, by simp [rwn, ← hr_1, c_5], ⟨mi_2, ma_3, ⟨hI, fun k hk => (hFI k hk).trans (by rw [hmi0]), fun k hk => (hFA k hk).trans (by rw [hma0]), (by rw [hf_4.2.2 35 (by decide)]; simp [rwa, ← hr_1, c_5])⟩, by rw [ht]; exact hP, va_K.moved hW.alike hK, hD⟩⟩, hS.F ht⟩) hS.2.2 dX11_window_20
  · have t_c_5 := mt Int32.toInt_inj.mp c_5
    have hif := isr_in (fun q => c_5 (hr_1.trans q))
    have hf0 := hif.1
    have hF4 := (MB_flows hI.1).2
    have hfw : f.toInt < (mi_2 32).toInt := by rw [hf_4.2.1 32 (by decide)]; exact hif.2
    have hf4 : f.toInt < 4 := by omega
    refine lv_iload_n hx hb dX11_window_8 rfl (lv_at hl 2 rfl) ?_
    refine lv_iconst (v := 0) hx hb dX11_window_9 (by decide) ?_
    refine lv_sipush (v := 200) hx hb dX11_window_10 (by decide) ?_
    have hFc := va_free (wc := []) hD hS hA [] rfl
    refine va_calli (va_runS (As := [.int g, .int 0, .int 200]) (rest := []) ⟨hx, hb, hml, hown, ha⟩ (c_in l D cI cJ cZ cO _ g 0 200) (va_cwS 3 ha (gaS kl_X11_187 kt_X11_in kz_X11 kd_X11_in) rfl rfl rfl (by decide +kernel) ⟨Nat.le_of_ble_eq_true rfl, Nat.le_of_ble_eq_true rfl⟩) ⟨pw_blind, fun U hU hW => ⟨rfl, pw_start hU hW pw_P0 hK (pw_D0 (A := A)) hN⟩⟩ rfl rfl hl.1 rfl (lv_room (Nat.le_of_ble_eq_true rfl)) dX11_window_13 ⟨Nat.le_of_ble_eq_true rfl, Nat.le_of_ble_eq_true rfl⟩) hS (fun q _ h => hFc q h) hFc (fun r_6 u t H1 locs ht hvm hw hB hz1 hk1 hS => ?_)
    have hP := va_keep0 hP hk1
    generalize H1 = H at hP hS ⊢
    refine W.widen (k := 0) (n := 0) (Nat.le_refl _) (Nat.le_refl _) ?_
    have hr_6 : r_6 = wi g 0 200 := hw
    refine lv_if_ne (tgt := 21) hx hb dX11_window_16 (by decide) (fun c_7 => ?_) (fun c_7 => ?_)
    · have t_c_7 := mt Int32.toInt_inj.mp c_7
      have w_r_6 := wi_ti (by rw [← hr_6]; exact c_7)
      refine lv_aload_n hx hb dX11_window_21 rfl (lv_at hl 0 rfl) ?_
      refine va_get (D := D) (ci := 11) (v := .ref (mq 35)) (C := RX11) (T := TX11) (N := 74) hx hb ha inlX11 hown hK hP 0 mw_at0 rfl 35 (by decide) (ha _ kf_X11_73) (fun _ h9 => h9) rfl dX11_window_22 ?_
      refine lv_iload_n hx hb dX11_window_25 rfl (lv_at hl 1 rfl) ?_
      have hin_8 : vp_in f 4 := vpi_of (by omega) (by omega)
      refine va_iald hx hb hK hP 17 0 mw_at35 rfl hin_8 dX11_window_26 ?_
      refine lv_topi (fun x_9 ex_9 => ?_)
      have u_x_9 := congrArg Int32.toInt ex_9
      have r_x_9 := rg_ld (MI_window hI) hin_8 ex_9
      refine lv_istore_n (lv' := [(3, .int x_9), (0, .ref h0), (1, .int f), (2, .int g)]) hx hb dX11_window_27 rfl hl (by decide) rfl (fun ls hl => ?_)
      refine lv_aload_n hx hb dX11_window_28 rfl (lv_at hl 1 rfl) ?_
      refine va_get (D := D) (ci := 11) (v := .ref (mq 35)) (C := RX11) (T := TX11) (N := 74) hx hb ha inlX11 hown hK hP 0 mw_at0 rfl 35 (by decide) (ha _ kf_X11_73) (fun _ h9 => h9) rfl dX11_window_29 ?_
      refine lv_iload_n hx hb dX11_window_32 rfl (lv_at hl 2 rfl) ?_
      refine lv_iload_n hx hb dX11_window_33 rfl (lv_at hl 3 rfl) ?_
      have hin_10 : vp_in f 4 := vpi_of (by omega) (by omega)
      refine va_iast hx hb hK hP hD hS 17 0 mw_at35 rfl hin_10 dX11_window_34 (fun H locs hP hD hS => ?_)
      have hP : va_P D vwCl (mw cI cZ h0 mq mi_2 (va_up ma_3 35 (upd (ma_3 35) f.toNatClampNeg g))) H := mwP_35 hP
      have hD : va_D A (mw cI cZ h0 mq mi_2 (va_up ma_3 35 (upd (ma_3 35) f.toNatClampNeg g))) := mwD_35 hD
      generalize hma_11 : va_up ma_3 35 (upd (ma_3 35) f.toNatClampNeg g) = ma_11 at hP hD
      have hI : MI ph (cl + 1) mi_2 ma_11 := by rw [← hma_11]; exact MIa_window hI (by omega) (by omega)
      have hFA : ∀ k, k ∉ ([35, 41] : List Nat) → ma_11 k = ma0 k := fun k hk => by rw [← hma_11]; exact (va_up_ne _ _ (fun e => hk (by rw [e]; decide))).trans (hFA k hk)
      have z35 : ma_11 35 = upd (ma_3 35) f.toNatClampNeg g := mu_eq (k := 35) hma_11
      refine lv_aload_n hx hb dX11_window_35 rfl (lv_at hl 1 rfl) ?_
      refine va_get (D := D) (ci := 11) (v := .ref (mq 41)) (C := RX11) (T := TX11) (N := 74) hx hb ha inlX11 hown hK hP 0 mw_at0 rfl 41 (by decide) (ha _ kf_X11_91) (fun _ h9 => h9) rfl dX11_window_36 ?_
      refine lv_iload_n hx hb dX11_window_39 rfl (lv_at hl 2 rfl) ?_
      refine lv_aload_n hx hb dX11_window_40 rfl (lv_at hl 1 rfl) ?_
      refine va_get (D := D) (ci := 11) (v := .ref (mq 41)) (C := RX11) (T := TX11) (N := 74) hx hb ha inlX11 hown hK hP 0 mw_at0 rfl 41 (by decide) (ha _ kf_X11_91) (fun _ h9 => h9) rfl dX11_window_41 ?_
      refine lv_iload_n hx hb dX11_window_44 rfl (lv_at hl 2 rfl) ?_
      have hin_12 : vp_in f 4 := vpi_of (by omega) (by omega)
      refine va_zald hx hb hK hP 23 2 mw_at41 rfl hin_12 dX11_window_45 ?_
      refine lv_topi (fun x_13 ex_13 => ?_)
      have u_x_13 := congrArg Int32.toInt ex_13
      refine lv_if_ne (tgt := 54) hx hb dX11_window_46 (by decide) (fun c_14 => ?_) (fun c_14 => ?_)
      · have t_c_14 := mt Int32.toInt_inj.mp c_14
        refine lv_iconst (v := 1) hx hb dX11_window_54 (by decide) ?_
        refine lv_goto (tgt := 59) hx hb dX11_window_55 (by decide) ?_
        have hin_15 : vp_in f 4 := vpi_of (by omega) (by omega)
        refine va_zast hx hb hK hP hD hS 23 2 mw_at41 rfl hin_15 dX11_window_59 (fun H locs hP hD hS => ?_)
        have hP : va_P D vwCl (mw cI cZ h0 mq mi_2 (va_up ma_11 41 (upd (ma_11 41) f.toNatClampNeg (vp_nar .boolean (1 : Int32))))) H := mwP_41 hP
        have hD : va_D A (mw cI cZ h0 mq mi_2 (va_up ma_11 41 (upd (ma_11 41) f.toNatClampNeg (vp_nar .boolean (1 : Int32))))) := mwD_41 hD
        generalize hma_16 : va_up ma_11 41 (upd (ma_11 41) f.toNatClampNeg (vp_nar .boolean (1 : Int32))) = ma_16 at hP hD
        have hI : MI ph cl mi_2 ma_16 := by rw [← hma_16]; exact MIc_changes hI
        have hFA : ∀ k, k ∉ ([35, 41] : List Nat) → ma_16 k = ma0 k := fun k hk => by rw [← hma_16]; exact (va_up_ne _ _ (fun e => hk (by rw [e]; decide))).trans (hFA k hk)
        refine lv_iload_n hx hb dX11_window_60 rfl (lv_at hl 0 rfl) ?_
        exact W.iret (v := x_9) hx hb hr (fun t ht hW => ⟨⟨x_9, (), rfl, (by rw [rwn, if_neg (fun q => c_5 (hr_1.trans q)), if_neg (fun q => c_7 (hr_6.trans q)), ex_9, hf_4.2.2 35 (by decide)]), ⟨mi_2, ma_16, ⟨hI, fun k hk => (hFI k hk).trans (by rw [hmi0]), fun k hk => (hFA k hk).trans (by rw [hma0]), (by rw [mu_ne (k := 41) (j := 35) hma_16 (by decide), z35, rwa, if_neg (fun q => c_5 (hr_1.trans q)), if_neg (fun q => c_7 (hr_6.trans q)), hf_4.2.2 35 (by decide)])⟩, by rw [ht]; exact hP, va_K.moved hW.alike hK, hD⟩⟩, hS.F ht⟩) hS.2.2 dX11_window_61
      · have t_c_14 := congrArg Int32.toInt c_14
        refine lv_iload_n hx hb dX11_window_49 rfl (lv_at hl 0 rfl) ?_
        refine lv_iload_n hx hb dX11_window_50 rfl (lv_at hl 3 rfl) ?_
        refine lv_icmp_eq (tgt := 58) hx hb dX11_window_51 (by decide) (fun c_17 => ?_) (fun c_17 => ?_)
        · have t_c_17 := congrArg Int32.toInt c_17
          refine lv_iconst (v := 0) hx hb dX11_window_58 (by decide) ?_
          have hin_18 : vp_in f 4 := vpi_of (by omega) (by omega)
          refine va_zast hx hb hK hP hD hS 23 2 mw_at41 rfl hin_18 dX11_window_59 (fun H locs hP hD hS => ?_)
          have hP : va_P D vwCl (mw cI cZ h0 mq mi_2 (va_up ma_11 41 (upd (ma_11 41) f.toNatClampNeg (vp_nar .boolean (0 : Int32))))) H := mwP_41 hP
          have hD : va_D A (mw cI cZ h0 mq mi_2 (va_up ma_11 41 (upd (ma_11 41) f.toNatClampNeg (vp_nar .boolean (0 : Int32))))) := mwD_41 hD
          generalize hma_19 : va_up ma_11 41 (upd (ma_11 41) f.toNatClampNeg (vp_nar .boolean (0 : Int32))) = ma_19 at hP hD
          have hI : MI ph cl mi_2 ma_19 := by rw [← hma_19]; exact MIc_changes hI
          have hFA : ∀ k, k ∉ ([35, 41] : List Nat) → ma_19 k = ma0 k := fun k hk => by rw [← hma_19]; exact (va_up_ne _ _ (fun e => hk (by rw [e]; decide))).trans (hFA k hk)
          refine lv_iload_n hx hb dX11_window_60 rfl (lv_at hl 0 rfl) ?_
          exact W.iret (v := x_9) hx hb hr (fun t ht hW => ⟨⟨x_9, (), rfl, (by rw [rwn, if_neg (fun q => c_5 (hr_1.trans q)), if_neg (fun q => c_7 (hr_6.trans q)), ex_9, hf_4.2.2 35 (by decide)]), ⟨mi_2, ma_19, ⟨hI, fun k hk => (hFI k hk).trans (by rw [hmi0]), fun k hk => (hFA k hk).trans (by rw [hma0]), (by rw [mu_ne (k := 41) (j := 35) hma_19 (by decide), z35, rwa, if_neg (fun q => c_5 (hr_1.trans q)), if_neg (fun q => c_7 (hr_6.trans q)), hf_4.2.2 35 (by decide)])⟩, by rw [ht]; exact hP, va_K.moved hW.alike hK, hD⟩⟩, hS.F ht⟩) hS.2.2 dX11_window_61
        · have t_c_17 := mt Int32.toInt_inj.mp c_17
          refine lv_iconst (v := 1) hx hb dX11_window_54 (by decide) ?_
          refine lv_goto (tgt := 59) hx hb dX11_window_55 (by decide) ?_
          have hin_20 : vp_in f 4 := vpi_of (by omega) (by omega)
          refine va_zast hx hb hK hP hD hS 23 2 mw_at41 rfl hin_20 dX11_window_59 (fun H locs hP hD hS => ?_)
          have hP : va_P D vwCl (mw cI cZ h0 mq mi_2 (va_up ma_11 41 (upd (ma_11 41) f.toNatClampNeg (vp_nar .boolean (1 : Int32))))) H := mwP_41 hP
          have hD : va_D A (mw cI cZ h0 mq mi_2 (va_up ma_11 41 (upd (ma_11 41) f.toNatClampNeg (vp_nar .boolean (1 : Int32))))) := mwD_41 hD
          generalize hma_21 : va_up ma_11 41 (upd (ma_11 41) f.toNatClampNeg (vp_nar .boolean (1 : Int32))) = ma_21 at hP hD
          have hI : MI ph cl mi_2 ma_21 := by rw [← hma_21]; exact MIc_changes hI
          have hFA : ∀ k, k ∉ ([35, 41] : List Nat) → ma_21 k = ma0 k := fun k hk => by rw [← hma_21]; exact (va_up_ne _ _ (fun e => hk (by rw [e]; decide))).trans (hFA k hk)
          refine lv_iload_n hx hb dX11_window_60 rfl (lv_at hl 0 rfl) ?_
          exact W.iret (v := x_9) hx hb hr (fun t ht hW => ⟨⟨x_9, (), rfl, (by rw [rwn, if_neg (fun q => c_5 (hr_1.trans q)), if_neg (fun q => c_7 (hr_6.trans q)), ex_9, hf_4.2.2 35 (by decide)]), ⟨mi_2, ma_21, ⟨hI, fun k hk => (hFI k hk).trans (by rw [hmi0]), fun k hk => (hFA k hk).trans (by rw [hma0]), (by rw [mu_ne (k := 41) (j := 35) hma_21 (by decide), z35, rwa, if_neg (fun q => c_5 (hr_1.trans q)), if_neg (fun q => c_7 (hr_6.trans q)), hf_4.2.2 35 (by decide)])⟩, by rw [ht]; exact hP, va_K.moved hW.alike hK, hD⟩⟩, hS.F ht⟩) hS.2.2 dX11_window_61
    · have t_c_7 := congrArg Int32.toInt c_7
      refine lv_iconst (v := (-1)) hx hb dX11_window_19 (by decide) ?_
      have hI := MI_cl hI
      exact W.iret (v := (-1)) hx hb hr (fun t ht hW => ⟨⟨(-1), (), rfl, by simp [rwn, ← hr_1, ← hr_6, c_5, c_7], ⟨mi_2, ma_3, ⟨hI, fun k hk => (hFI k hk).trans (by rw [hmi0]), fun k hk => (hFA k hk).trans (by rw [hma0]), (by rw [hf_4.2.2 35 (by decide)]; simp [rwa, ← hr_1, ← hr_6, c_5, c_7])⟩, by rw [ht]; exact hP, va_K.moved hW.alike hK, hD⟩⟩, hS.F ht⟩) hS.2.2 dX11_window_20
