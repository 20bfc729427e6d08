def xc_writeToP (f : Nat → Int64) : Nat → Int64 := f
set_option maxHeartbeats 4000000 in
set_option maxRecDepth 100000 in
theorem s_writeToP (l : Launch) (D : va_G) (cI cJ cZ cO : ClassId) (sz : Nat) (h0 h1 w : Nat) (f : Nat → Int64) (L : List Nat) (kd : Nat → Bool) (pi : Nat → Nat → Int32) (bd : Nat → Nat) (af : Nat → Option Nat) (bo : Nat → Nat → Int64) (m_w : w ∈ L) (k_w : kd w = true) : Met l yX4_writeTo (wa yX4_writeTo cX4_writeTo 3 none) ({ frames := 0, cells := 0, slots := 0, locals := 0 }) (va_Pc [.ref h0, .ref w] (pw_s D cI cJ cZ cO sz ([(h0, mkC h1), (h1, .inl (cJ, 4, .inr (.inl f)))] ++ va_pl L (pf cJ kd pi bd af bo)))) (va_Qv (fun (_ : Unit) => True) (fun (_ : Unit) (t : State) => ∃ (f2 : Nat → Int64) (bo2 : Nat → Nat → Int64), ((rw4 (bo2 w) = rw4 f ∧ ∀ a, a ≠ w → bo2 a = bo a) ∧ f2 = (xc_writeToP f)) ∧ pw_t D cI cJ cZ cO (va_A ([(h0, mkC h1), (h1, .inl (cJ, 4, .inr (.inl f)))] ++ va_pl L (pf cJ kd pi bd af bo)) sz) ([(h0, mkC h1), (h1, .inl (cJ, 4, .inr (.inl f2)))] ++ va_pl L (pf cJ kd pi bd af bo2)) t) (va_A ([(h0, mkC h1), (h1, .inl (cJ, 4, .inr (.inl f)))] ++ va_pl L (pf cJ kd pi bd af bo)) sz)) 0 0 (va_A ([(h0, mkC h1), (h1, .inl (cJ, 4, .inr (.inl f)))] ++ va_pl L (pf cJ kd pi bd af bo)) sz) := by
  refine Met.ofW (cc := cX4_writeTo) (maxL := 3) (ret := none) (by decide) rfl ?_
  intro p e s m args below meth c s₁ B hml hv
  obtain ⟨rfl, hsz, hP, hK, hD0, hN⟩ := hv
  have hx := B.exec
  have hb := B.bytes
  have hr := B.returns
  have hts := atoms_spec (ws := (wa yX4_writeTo cX4_writeTo 3 none)) B.pre
  have ha : ∀ w ∈ wsL_law, w.before _ s = true := fun w h => hts w (List.mem_cons_of_mem _ h)
  have hown : s.vm.findClass RX4 = some m.cls := findClass_of_methodNamed B.named
  have hlocks := B.notSynchronized
  subst hsz
  have hD := hD0.self (sz := s.heap.size)
  generalize hAe : va_A ([(h0, mkC h1), (h1, .inl (cJ, 4, .inr (.inl f)))] ++ va_pl L (pf cJ kd pi bd af bo)) s.heap.size = A at hD ⊢
  have hA : ∀ q : Nat, s.heap.size ≤ q → A q := fun q h => by rw [← hAe]; exact Or.inr h
  have hS : va_S A s.heap s.heap [] := va_S.rf
  have hP : va_P D vwCl ([(h0, mkC h1), (h1, .inl (cJ, 4, .inr (.inl f)))] ++ va_pl L (pf cJ kd pi bd af bo)) s.heap := hP
  have hl := lv_entry ([.ref h0, .ref w]) (n := 3) (Nat.le_of_ble_eq_true rfl)
  rw [lg_entry_eq]
  generalize (lg_sl ([.ref h0, .ref w]) ++ List.replicate (3 - (lg_sl ([.ref h0, .ref w])).length) Slot.unset).toArray = ls at hl ⊢
  have hl : lv_has ls 3 [(0, .ref h0), (1, .ref w)] := hl
  obtain ⟨QP, hQP⟩ : ∃ y : State → Prop, y = (MQ below (va_Qv (fun (_ : Unit) => True) (fun (_ : Unit) (t : State) => ∃ (f2 : Nat → Int64) (bo2 : Nat → Nat → Int64), ((rw4 (bo2 w) = rw4 f ∧ ∀ a, a ≠ w → bo2 a = bo a) ∧ f2 = (xc_writeToP f)) ∧ pw_t D cI cJ cZ cO A ([(h0, mkC h1), (h1, .inl (cJ, 4, .inr (.inl f2)))] ++ va_pl L (pf cJ kd pi bd af bo2)) t) A) #[(.ref h0 : Value), (.ref w : Value)] s 0 0 A) := ⟨_, rfl⟩
  obtain ⟨RES, hRES⟩ : ∃ y, y = (xc_writeToP f) := ⟨_, rfl⟩
  -- from the entry
  have hE := hRES
  unfold xc_writeToP at hE
  refine lv_iconst (v := 0) hx hb dX4_writeTo_0 (by decide) ?_
  refine lv_istore_n (lv' := [(2, .int 0), (0, .ref h0), (1, .ref w)]) hx hb dX4_writeTo_1 rfl hl (by decide) rfl (fun ls hl => ?_)
  refine lv_iload_n hx hb dX4_writeTo_2 rfl (lv_at hl 0 rfl) ?_
  refine lv_aload_n hx hb dX4_writeTo_3 rfl (lv_at hl 1 rfl) ?_
  refine va_get (D := D) (ci := 4) (v := .ref h1) (C := RX4) (T := TX4) (N := 1) hx hb ha inlX4 hown hK hP 0 rfl rfl 0 (by decide) (ha _ kf_X4_7) (fun _ h9 => h9) rfl dX4_writeTo_4 ?_
  refine va_alen hx hb hK hP 1 1 (v := 4) rfl rfl (show Int32.ofNat 4 = 4 by decide) dX4_writeTo_7 ?_
  refine lv_icmp_ge (tgt := 32) hx hb dX4_writeTo_8 (by decide) (fun c_30 => ?_) (fun c_30 => ?_)
  · exact absurd c_30 (by decide)
  refine lv_iload_n hx hb dX4_writeTo_11 rfl (lv_at hl 0 rfl) ?_
  refine lv_aload_n hx hb dX4_writeTo_12 rfl (lv_at hl 2 rfl) ?_
  obtain ⟨k_31, hk_31⟩ := va_pl_get (X := [(h0, mkC h1), (h1, .inl (cJ, 4, .inr (.inl f)))]) (f := pf cJ kd pi bd af bo) m_w
  refine va_alen hx hb hK hP k_31 1 (v := 4) (hk_31.trans (congrArg (fun z => some (w, z)) (pf_b k_w))) rfl (show Int32.ofNat 4 = 4 by decide) dX4_writeTo_13 ?_
  refine lv_icmp_ge (tgt := 32) hx hb dX4_writeTo_14 (by decide) (fun c_32 => ?_) (fun c_32 => ?_)
  · exact absurd c_32 (by decide)
  refine lv_aload_n hx hb dX4_writeTo_17 rfl (lv_at hl 2 rfl) ?_
  refine lv_iload_n hx hb dX4_writeTo_18 rfl (lv_at hl 0 rfl) ?_
  refine lv_aload_n hx hb dX4_writeTo_19 rfl (lv_at hl 1 rfl) ?_
  refine va_get (D := D) (ci := 4) (v := .ref h1) (C := RX4) (T := TX4) (N := 1) hx hb ha inlX4 hown hK hP 0 rfl rfl 0 (by decide) (ha _ kf_X4_7) (fun _ h9 => h9) rfl dX4_writeTo_20 ?_
  refine lv_iload_n hx hb dX4_writeTo_23 rfl (lv_at hl 0 rfl) ?_
  refine va_lald hx hb hK hP 1 1 rfl rfl (by unfold vp_in; decide) dX4_writeTo_24 ?_
  refine lv_topl (fun y_33 ey_33 => ?_)
  obtain ⟨k_34, hk_34⟩ := va_pl_get (X := [(h0, mkC h1), (h1, .inl (cJ, 4, .inr (.inl f)))]) (f := pf cJ kd pi bd af bo) m_w
  refine va_last hx hb hK hP hD hS k_34 1 (hk_34.trans (congrArg (fun z => some (w, z)) (pf_b k_w))) rfl (by unfold vp_in; decide) dX4_writeTo_25 (fun H locs hP1 hD1 hS => ?_)
  have hP : va_P D vwCl ([(h0, mkC h1), (h1, .inl (cJ, 4, .inr (.inl f)))] ++ va_pl L (pf cJ kd pi bd af (va_up bo w (vp_updL (bo w) (0 : Int32).toNatClampNeg y_33)))) H := by rw [← pf_ub k_w, ← va_pl_set hD m_w hk_34]; exact hP1
  have hD : va_D A ([(h0, mkC h1), (h1, .inl (cJ, 4, .inr (.inl f)))] ++ va_pl L (pf cJ kd pi bd af (va_up bo w (vp_updL (bo w) (0 : Int32).toNatClampNeg y_33)))) := by rw [← pf_ub k_w, ← va_pl_set hD m_w hk_34]; exact hD1
  obtain ⟨bo0, hbo0⟩ : ∃ y, y = bo := ⟨_, rfl⟩
  have hbz : ∀ a, a ≠ w → bo a = bo0 a := fun a _ => by rw [hbo0]
  generalize hbo_35 : va_up bo w (vp_updL (bo w) (0 : Int32).toNatClampNeg y_33) = bo at hP hD
  have hbz : ∀ a, a ≠ w → bo a = bo0 a := fun a h => by rw [← hbo_35]; exact (va_up_ne _ _ h).trans (hbz a h)
  have hw_0 : bo w (0 : Int32).toNatClampNeg = f (0 : Int32).toNatClampNeg := by rw [← hbo_35, va_up_self]; exact updL_eq.trans ey_33
  refine lv_iinc (v := 1) (lv' := [(2, .int 1), (0, .ref h0), (1, .ref w)]) hx hb dX4_writeTo_26 hl (k := 0) rfl (by decide) (by decide) rfl (fun ls hl => ?_)
  refine lv_goto (tgt := 2) hx hb dX4_writeTo_29 (by decide) ?_
  refine lv_iload_n hx hb dX4_writeTo_2 rfl (lv_at hl 0 rfl) ?_
  refine lv_aload_n hx hb dX4_writeTo_3 rfl (lv_at hl 1 rfl) ?_
  refine va_get (D := D) (ci := 4) (v := .ref h1) (C := RX4) (T := TX4) (N := 1) hx hb ha inlX4 hown hK hP 0 rfl rfl 0 (by decide) (ha _ kf_X4_7) (fun _ h9 => h9) rfl dX4_writeTo_4 ?_
  refine va_alen hx hb hK hP 1 1 (v := 4) rfl rfl (show Int32.ofNat 4 = 4 by decide) dX4_writeTo_7 ?_
  refine lv_icmp_ge (tgt := 32) hx hb dX4_writeTo_8 (by decide) (fun c_37 => ?_) (fun c_37 => ?_)
  · exact absurd c_37 (by decide)
  refine lv_iload_n hx hb dX4_writeTo_11 rfl (lv_at hl 0 rfl) ?_
  refine lv_aload_n hx hb dX4_writeTo_12 rfl (lv_at hl 2 rfl) ?_
  obtain ⟨k_38, hk_38⟩ := va_pl_get (X := [(h0, mkC h1), (h1, .inl (cJ, 4, .inr (.inl f)))]) (f := pf cJ kd pi bd af bo) m_w
  refine va_alen hx hb hK hP k_38 1 (v := 4) (hk_38.trans (congrArg (fun z => some (w, z)) (pf_b k_w))) rfl (show Int32.ofNat 4 = 4 by decide) dX4_writeTo_13 ?_
  refine lv_icmp_ge (tgt := 32) hx hb dX4_writeTo_14 (by decide) (fun c_39 => ?_) (fun c_39 => ?_)
  · exact absurd c_39 (by decide)
  refine lv_aload_n hx hb dX4_writeTo_17 rfl (lv_at hl 2 rfl) ?_
  refine lv_iload_n hx hb dX4_writeTo_18 rfl (lv_at hl 0 rfl) ?_
  refine lv_aload_n hx hb dX4_writeTo_19 rfl (lv_at hl 1 rfl) ?_
  refine va_get (D := D) (ci := 4) (v := .ref h1) (C := RX4) (T := TX4) (N := 1) hx hb ha inlX4 hown hK hP 0 rfl rfl 0 (by decide) (ha _ kf_X4_7) (fun _ h9 => h9) rfl dX4_writeTo_20 ?_
  refine lv_iload_n hx hb dX4_writeTo_23 rfl (lv_at hl 0 rfl) ?_
  refine va_lald hx hb hK hP 1 1 rfl rfl (by unfold vp_in; decide) dX4_writeTo_24 ?_
  refine lv_topl (fun y_40 ey_40 => ?_)
  obtain ⟨k_41, hk_41⟩ := va_pl_get (X := [(h0, mkC h1), (h1, .inl (cJ, 4, .inr (.inl f)))]) (f := pf cJ kd pi bd af bo) m_w
  refine va_last hx hb hK hP hD hS k_41 1 (hk_41.trans (congrArg (fun z => some (w, z)) (pf_b k_w))) rfl (by unfold vp_in; decide) dX4_writeTo_25 (fun H locs hP1 hD1 hS => ?_)
  have hP : va_P D vwCl ([(h0, mkC h1), (h1, .inl (cJ, 4, .inr (.inl f)))] ++ va_pl L (pf cJ kd pi bd af (va_up bo w (vp_updL (bo w) (1 : Int32).toNatClampNeg y_40)))) H := by rw [← pf_ub k_w, ← va_pl_set hD m_w hk_41]; exact hP1
  have hD : va_D A ([(h0, mkC h1), (h1, .inl (cJ, 4, .inr (.inl f)))] ++ va_pl L (pf cJ kd pi bd af (va_up bo w (vp_updL (bo w) (1 : Int32).toNatClampNeg y_40)))) := by rw [← pf_ub k_w, ← va_pl_set hD m_w hk_41]; exact hD1
  generalize hbo_42 : va_up bo w (vp_updL (bo w) (1 : Int32).toNatClampNeg y_40) = bo at hP hD
  have hbz : ∀ a, a ≠ w → bo a = bo0 a := fun a h => by rw [← hbo_42]; exact (va_up_ne _ _ h).trans (hbz a h)
  have hw_0 : bo w (0 : Int32).toNatClampNeg = f (0 : Int32).toNatClampNeg := by rw [← hbo_42, va_up_self]; exact (updL_ne (by decide)).trans hw_0
  have hw_1 : bo w (1 : Int32).toNatClampNeg = f (1 : Int32).toNatClampNeg := by rw [← hbo_42, va_up_self]; exact updL_eq.trans ey_40
  refine lv_iinc (v := 2) (lv' := [(2, .int 2), (0, .ref h0), (1, .ref w)]) hx hb dX4_writeTo_26 hl (k := 0) rfl (by decide) (by decide) rfl (fun ls hl => ?_)
  refine lv_goto (tgt := 2) hx hb dX4_writeTo_29 (by decide) ?_
  refine lv_iload_n hx hb dX4_writeTo_2 rfl (lv_at hl 0 rfl) ?_
  refine lv_aload_n hx hb dX4_writeTo_3 rfl (lv_at hl 1 rfl) ?_
  refine va_get (D := D) (ci := 4) (v := .ref h1) (C := RX4) (T := TX4) (N := 1) hx hb ha inlX4 hown hK hP 0 rfl rfl 0 (by decide) (ha _ kf_X4_7) (fun _ h9 => h9) rfl dX4_writeTo_4 ?_
  refine va_alen hx hb hK hP 1 1 (v := 4) rfl rfl (show Int32.ofNat 4 = 4 by decide) dX4_writeTo_7 ?_
  refine lv_icmp_ge (tgt := 32) hx hb dX4_writeTo_8 (by decide) (fun c_44 => ?_) (fun c_44 => ?_)
  · exact absurd c_44 (by decide)
  refine lv_iload_n hx hb dX4_writeTo_11 rfl (lv_at hl 0 rfl) ?_
  refine lv_aload_n hx hb dX4_writeTo_12 rfl (lv_at hl 2 rfl) ?_
  obtain ⟨k_45, hk_45⟩ := va_pl_get (X := [(h0, mkC h1), (h1, .inl (cJ, 4, .inr (.inl f)))]) (f := pf cJ kd pi bd af bo) m_w
  refine va_alen hx hb hK hP k_45 1 (v := 4) (hk_45.trans (congrArg (fun z => some (w, z)) (pf_b k_w))) rfl (show Int32.ofNat 4 = 4 by decide) dX4_writeTo_13 ?_
  refine lv_icmp_ge (tgt := 32) hx hb dX4_writeTo_14 (by decide) (fun c_46 => ?_) (fun c_46 => ?_)
  · exact absurd c_46 (by decide)
  refine lv_aload_n hx hb dX4_writeTo_17 rfl (lv_at hl 2 rfl) ?_
  refine lv_iload_n hx hb dX4_writeTo_18 rfl (lv_at hl 0 rfl) ?_
  refine lv_aload_n hx hb dX4_writeTo_19 rfl (lv_at hl 1 rfl) ?_
  refine va_get (D := D) (ci := 4) (v := .ref h1) (C := RX4) (T := TX4) (N := 1) hx hb ha inlX4 hown hK hP 0 rfl rfl 0 (by decide) (ha _ kf_X4_7) (fun _ h9 => h9) rfl dX4_writeTo_20 ?_
  refine lv_iload_n hx hb dX4_writeTo_23 rfl (lv_at hl 0 rfl) ?_
  refine va_lald hx hb hK hP 1 1 rfl rfl (by unfold vp_in; decide) dX4_writeTo_24 ?_
  refine lv_topl (fun y_47 ey_47 => ?_)
  obtain ⟨k_48, hk_48⟩ := va_pl_get (X := [(h0, mkC h1), (h1, .inl (cJ, 4, .inr (.inl f)))]) (f := pf cJ kd pi bd af bo) m_w
  refine va_last hx hb hK hP hD hS k_48 1 (hk_48.trans (congrArg (fun z => some (w, z)) (pf_b k_w))) rfl (by unfold vp_in; decide) dX4_writeTo_25 (fun H locs hP1 hD1 hS => ?_)
  have hP : va_P D vwCl ([(h0, mkC h1), (h1, .inl (cJ, 4, .inr (.inl f)))] ++ va_pl L (pf cJ kd pi bd af (va_up bo w (vp_updL (bo w) (2 : Int32).toNatClampNeg y_47)))) H := by rw [← pf_ub k_w, ← va_pl_set hD m_w hk_48]; exact hP1
  have hD : va_D A ([(h0, mkC h1), (h1, .inl (cJ, 4, .inr (.inl f)))] ++ va_pl L (pf cJ kd pi bd af (va_up bo w (vp_updL (bo w) (2 : Int32).toNatClampNeg y_47)))) := by rw [← pf_ub k_w, ← va_pl_set hD m_w hk_48]; exact hD1
  generalize hbo_49 : va_up bo w (vp_updL (bo w) (2 : Int32).toNatClampNeg y_47) = bo at hP hD
  have hbz : ∀ a, a ≠ w → bo a = bo0 a := fun a h => by rw [← hbo_49]; exact (va_up_ne _ _ h).trans (hbz a h)
  have hw_0 : bo w (0 : Int32).toNatClampNeg = f (0 : Int32).toNatClampNeg := by rw [← hbo_49, va_up_self]; exact (updL_ne (by decide)).trans hw_0
  have hw_1 : bo w (1 : Int32).toNatClampNeg = f (1 : Int32).toNatClampNeg := by rw [← hbo_49, va_up_self]; exact (updL_ne (by decide)).trans hw_1
  have hw_2 : bo w (2 : Int32).toNatClampNeg = f (2 : Int32).toNatClampNeg := by rw [← hbo_49, va_up_self]; exact updL_eq.trans ey_47
  refine lv_iinc (v := 3) (lv' := [(2, .int 3), (0, .ref h0), (1, .ref w)]) hx hb dX4_writeTo_26 hl (k := 0) rfl (by decide) (by decide) rfl (fun ls hl => ?_)
  refine lv_goto (tgt := 2) hx hb dX4_writeTo_29 (by decide) ?_
  refine lv_iload_n hx hb dX4_writeTo_2 rfl (lv_at hl 0 rfl) ?_
  refine lv_aload_n hx hb dX4_writeTo_3 rfl (lv_at hl 1 rfl) ?_
  refine va_get (D := D) (ci := 4) (v := .ref h1) (C := RX4) (T := TX4) (N := 1) hx hb ha inlX4 hown hK hP 0 rfl rfl 0 (by decide) (ha _ kf_X4_7) (fun _ h9 => h9) rfl dX4_writeTo_4 ?_
  refine va_alen hx hb hK hP 1 1 (v := 4) rfl rfl (show Int32.ofNat 4 = 4 by decide) dX4_writeTo_7 ?_
  refine lv_icmp_ge (tgt := 32) hx hb dX4_writeTo_8 (by decide) (fun c_51 => ?_) (fun c_51 => ?_)
  · exact absurd c_51 (by decide)
  refine lv_iload_n hx hb dX4_writeTo_11 rfl (lv_at hl 0 rfl) ?_
  refine lv_aload_n hx hb dX4_writeTo_12 rfl (lv_at hl 2 rfl) ?_
  obtain ⟨k_52, hk_52⟩ := va_pl_get (X := [(h0, mkC h1), (h1, .inl (cJ, 4, .inr (.inl f)))]) (f := pf cJ kd pi bd af bo) m_w
  refine va_alen hx hb hK hP k_52 1 (v := 4) (hk_52.trans (congrArg (fun z => some (w, z)) (pf_b k_w))) rfl (show Int32.ofNat 4 = 4 by decide) dX4_writeTo_13 ?_
  refine lv_icmp_ge (tgt := 32) hx hb dX4_writeTo_14 (by decide) (fun c_53 => ?_) (fun c_53 => ?_)
  · exact absurd c_53 (by decide)
  refine lv_aload_n hx hb dX4_writeTo_17 rfl (lv_at hl 2 rfl) ?_
  refine lv_iload_n hx hb dX4_writeTo_18 rfl (lv_at hl 0 rfl) ?_
  refine lv_aload_n hx hb dX4_writeTo_19 rfl (lv_at hl 1 rfl) ?_
  refine va_get (D := D) (ci := 4) (v := .ref h1) (C := RX4) (T := TX4) (N := 1) hx hb ha inlX4 hown hK hP 0 rfl rfl 0 (by decide) (ha _ kf_X4_7) (fun _ h9 => h9) rfl dX4_writeTo_20 ?_
  refine lv_iload_n hx hb dX4_writeTo_23 rfl (lv_at hl 0 rfl) ?_
  refine va_lald hx hb hK hP 1 1 rfl rfl (by unfold vp_in; decide) dX4_writeTo_24 ?_
  refine lv_topl (fun y_54 ey_54 => ?_)
  obtain ⟨k_55, hk_55⟩ := va_pl_get (X := [(h0, mkC h1), (h1, .inl (cJ, 4, .inr (.inl f)))]) (f := pf cJ kd pi bd af bo) m_w
  refine va_last hx hb hK hP hD hS k_55 1 (hk_55.trans (congrArg (fun z => some (w, z)) (pf_b k_w))) rfl (by unfold vp_in; decide) dX4_writeTo_25 (fun H locs hP1 hD1 hS => ?_)
  have hP : va_P D vwCl ([(h0, mkC h1), (h1, .inl (cJ, 4, .inr (.inl f)))] ++ va_pl L (pf cJ kd pi bd af (va_up bo w (vp_updL (bo w) (3 : Int32).toNatClampNeg y_54)))) H := by rw [← pf_ub k_w, ← va_pl_set hD m_w hk_55]; exact hP1
  have hD : va_D A ([(h0, mkC h1), (h1, .inl (cJ, 4, .inr (.inl f)))] ++ va_pl L (pf cJ kd pi bd af (va_up bo w (vp_updL (bo w) (3 : Int32).toNatClampNeg y_54)))) := by rw [← pf_ub k_w, ← va_pl_set hD m_w hk_55]; exact hD1
  generalize hbo_56 : va_up bo w (vp_updL (bo w) (3 : Int32).toNatClampNeg y_54) = bo at hP hD
  have hbz : ∀ a, a ≠ w → bo a = bo0 a := fun a h => by rw [← hbo_56]; exact (va_up_ne _ _ h).trans (hbz a h)
  have hw_0 : bo w (0 : Int32).toNatClampNeg = f (0 : Int32).toNatClampNeg := by rw [← hbo_56, va_up_self]; exact (updL_ne (by decide)).trans hw_0
  have hw_1 : bo w (1 : Int32).toNatClampNeg = f (1 : Int32).toNatClampNeg := by rw [← hbo_56, va_up_self]; exact (updL_ne (by decide)).trans hw_1
  have hw_2 : bo w (2 : Int32).toNatClampNeg = f (2 : Int32).toNatClampNeg := by rw [← hbo_56, va_up_self]; exact (updL_ne (by decide)).trans hw_2
  have hw_3 : bo w (3 : Int32).toNatClampNeg = f (3 : Int32).toNatClampNeg := by rw [← hbo_56, va_up_self]; exact updL_eq.trans ey_54
  refine lv_iinc (v := 4) (lv' := [(2, .int 4), (0, .ref h0), (1, .ref w)]) hx hb dX4_writeTo_26 hl (k := 0) rfl (by decide) (by decide) rfl (fun ls hl => ?_)
  refine lv_goto (tgt := 2) hx hb dX4_writeTo_29 (by decide) ?_
  refine lv_iload_n hx hb dX4_writeTo_2 rfl (lv_at hl 0 rfl) ?_
  refine lv_aload_n hx hb dX4_writeTo_3 rfl (lv_at hl 1 rfl) ?_
  refine va_get (D := D) (ci := 4) (v := .ref h1) (C := RX4) (T := TX4) (N := 1) hx hb ha inlX4 hown hK hP 0 rfl rfl 0 (by decide) (ha _ kf_X4_7) (fun _ h9 => h9) rfl dX4_writeTo_4 ?_
  refine va_alen hx hb hK hP 1 1 (v := 4) rfl rfl (show Int32.ofNat 4 = 4 by decide) dX4_writeTo_7 ?_
  refine lv_icmp_ge (tgt := 32) hx hb dX4_writeTo_8 (by decide) (fun c_58 => ?_) (fun c_58 => ?_)
  rotate_left
  · exact absurd (by decide) c_58
  have hP9 : va_P D vwCl ([(h0, mkC h1), (h1, .inl (cJ, 4, .inr (.inl f)))] ++ va_pl L (pf cJ kd pi bd af bo)) _ := hP
  have hD9 : va_D A ([(h0, mkC h1), (h1, .inl (cJ, 4, .inr (.inl f)))] ++ va_pl L (pf cJ kd pi bd af bo)) := hD
  exact W.vret hx hb hr (fun t ht hW => ⟨⟨(), rfl, trivial, ⟨f, bo, ⟨⟨by unfold rw4; rw [hw_0, hw_1, hw_2, hw_3], fun a h => (hbz a h).trans (congrFun hbo0 a)⟩, rfl⟩, by rw [ht]; exact hP9, va_K.moved hW.alike hK, hD9⟩⟩, hS.F ht⟩) hS.2.2 dX4_writeTo_32

set_option maxRecDepth 100000 in
def xc_readFromP (f : Nat → Int64) (row : R4) : (Nat → Int64) := bd (row.1) (fun w1 => bd (vp_updL f ((0 : Int32).toNatClampNeg) w1) (fun f => bd (row.2.1) (fun w2 => bd (vp_updL f ((1 : Int32).toNatClampNeg) w2) (fun f => bd (row.2.2.1) (fun w3 => bd (vp_updL f ((2 : Int32).toNatClampNeg) w3) (fun f => bd (row.2.2.2) (fun w4 => bd (vp_updL f ((3 : Int32).toNatClampNeg) w4) (fun f => (f)))))))))
set_option maxHeartbeats 4000000 in
set_option maxRecDepth 100000 in
theorem s_readFromP (l : Launch) (D : va_G) (cI cJ cZ cO : ClassId) (sz : Nat) (h0 h1 w : Nat) (f : Nat → Int64) (L : List Nat) (kd : Nat → Bool) (pi : Nat → Nat → Int32) (bd : Nat → Nat) (af : Nat → Option Nat) (bo : Nat → Nat → Int64) (m_w : w ∈ L) (k_w : kd w = true) : Met l yX4_readFrom (wa yX4_readFrom cX4_readFrom 3 none) ({ frames := 0, cells := 0, slots := 0, locals := 0 }) (va_Pc [.ref h0, .ref w] (pw_s D cI cJ cZ cO sz ([(h0, mkC h1), (h1, .inl (cJ, 4, .inr (.inl f)))] ++ va_pl L (pf cJ kd pi bd af bo)))) (va_Qv (fun (_ : Unit) => True) (fun (_ : Unit) (t : State) => ∃ (f2 : Nat → Int64), (f2 = (xc_readFromP f (rw4 (bo w)))) ∧ pw_t D cI cJ cZ cO (va_A ([(h0, mkC h1), (h1, .inl (cJ, 4, .inr (.inl f)))] ++ va_pl L (pf cJ kd pi bd af bo)) sz) ([(h0, mkC h1), (h1, .inl (cJ, 4, .inr (.inl f2)))] ++ va_pl L (pf cJ kd pi bd af bo)) t) (va_A ([(h0, mkC h1), (h1, .inl (cJ, 4, .inr (.inl f)))] ++ va_pl L (pf cJ kd pi bd af bo)) sz)) 0 0 (va_A ([(h0, mkC h1), (h1, .inl (cJ, 4, .inr (.inl f)))] ++ va_pl L (pf cJ kd pi bd af bo)) sz) := by
  refine Met.ofW (cc := cX4_readFrom) (maxL := 3) (ret := none) (by decide) rfl ?_
  intro p e s m args below meth c s₁ B hml hv
  obtain ⟨rfl, hsz, hP, hK, hD0, hN⟩ := hv
  have hx := B.exec
  have hb := B.bytes
  have hr := B.returns
  have hts := atoms_spec (ws := (wa yX4_readFrom cX4_readFrom 3 none)) B.pre
  have ha : ∀ w ∈ wsL_law, w.before _ s = true := fun w h => hts w (List.mem_cons_of_mem _ h)
  have hown : s.vm.findClass RX4 = some m.cls := findClass_of_methodNamed B.named
  have hlocks := B.notSynchronized
  subst hsz
  have hD := hD0.self (sz := s.heap.size)
  generalize hAe : va_A ([(h0, mkC h1), (h1, .inl (cJ, 4, .inr (.inl f)))] ++ va_pl L (pf cJ kd pi bd af bo)) s.heap.size = A at hD ⊢
  have hA : ∀ q : Nat, s.heap.size ≤ q → A q := fun q h => by rw [← hAe]; exact Or.inr h
  have hS : va_S A s.heap s.heap [] := va_S.rf
  have hP : va_P D vwCl ([(h0, mkC h1), (h1, .inl (cJ, 4, .inr (.inl f)))] ++ va_pl L (pf cJ kd pi bd af bo)) s.heap := hP
  have hl := lv_entry ([.ref h0, .ref w]) (n := 3) (Nat.le_of_ble_eq_true rfl)
  rw [lg_entry_eq]
  generalize (lg_sl ([.ref h0, .ref w]) ++ List.replicate (3 - (lg_sl ([.ref h0, .ref w])).length) Slot.unset).toArray = ls at hl ⊢
  have hl : lv_has ls 3 [(0, .ref h0), (1, .ref w)] := hl
  obtain ⟨QP, hQP⟩ : ∃ y : State → Prop, y = (MQ below (va_Qv (fun (_ : Unit) => True) (fun (_ : Unit) (t : State) => ∃ (f2 : Nat → Int64), (f2 = (xc_readFromP f (rw4 (bo w)))) ∧ pw_t D cI cJ cZ cO A ([(h0, mkC h1), (h1, .inl (cJ, 4, .inr (.inl f2)))] ++ va_pl L (pf cJ kd pi bd af bo)) t) A) #[(.ref h0 : Value), (.ref w : Value)] s 0 0 A) := ⟨_, rfl⟩
  obtain ⟨RES, hRES⟩ : ∃ y, y = (xc_readFromP f (rw4 (bo w))) := ⟨_, rfl⟩
  -- from the entry
  have hE := hRES
  unfold xc_readFromP at hE
  refine lv_iconst (v := 0) hx hb dX4_readFrom_0 (by decide) ?_
  refine lv_istore_n (lv' := [(2, .int 0), (0, .ref h0), (1, .ref w)]) hx hb dX4_readFrom_1 rfl hl (by decide) rfl (fun ls hl => ?_)
  refine lv_iload_n hx hb dX4_readFrom_2 rfl (lv_at hl 0 rfl) ?_
  refine lv_aload_n hx hb dX4_readFrom_3 rfl (lv_at hl 1 rfl) ?_
  refine va_get (D := D) (ci := 4) (v := .ref h1) (C := RX4) (T := TX4) (N := 1) hx hb ha inlX4 hown hK hP 0 rfl rfl 0 (by decide) (ha _ kf_X4_7) (fun _ h9 => h9) rfl dX4_readFrom_4 ?_
  refine va_alen hx hb hK hP 1 1 (v := 4) rfl rfl (show Int32.ofNat 4 = 4 by decide) dX4_readFrom_7 ?_
  refine lv_icmp_ge (tgt := 32) hx hb dX4_readFrom_8 (by decide) (fun c_30 => ?_) (fun c_30 => ?_)
  · exact absurd c_30 (by decide)
  refine lv_iload_n hx hb dX4_readFrom_11 rfl (lv_at hl 0 rfl) ?_
  refine lv_aload_n hx hb dX4_readFrom_12 rfl (lv_at hl 2 rfl) ?_
  obtain ⟨k_31, hk_31⟩ := va_pl_get (X := [(h0, mkC h1), (h1, .inl (cJ, 4, .inr (.inl f)))]) (f := pf cJ kd pi bd af bo) m_w
  refine va_alen hx hb hK hP k_31 1 (v := 4) (hk_31.trans (congrArg (fun z => some (w, z)) (pf_b k_w))) rfl (show Int32.ofNat 4 = 4 by decide) dX4_readFrom_13 ?_
  refine lv_icmp_ge (tgt := 32) hx hb dX4_readFrom_14 (by decide) (fun c_32 => ?_) (fun c_32 => ?_)
  · exact absurd c_32 (by decide)
  refine lv_aload_n hx hb dX4_readFrom_17 rfl (lv_at hl 1 rfl) ?_
  refine va_get (D := D) (ci := 4) (v := .ref h1) (C := RX4) (T := TX4) (N := 1) hx hb ha inlX4 hown hK hP 0 rfl rfl 0 (by decide) (ha _ kf_X4_7) (fun _ h9 => h9) rfl dX4_readFrom_18 ?_
  refine lv_iload_n hx hb dX4_readFrom_21 rfl (lv_at hl 0 rfl) ?_
  refine lv_aload_n hx hb dX4_readFrom_22 rfl (lv_at hl 2 rfl) ?_
  refine lv_iload_n hx hb dX4_readFrom_23 rfl (lv_at hl 0 rfl) ?_
  obtain ⟨k_33, hk_33⟩ := va_pl_get (X := [(h0, mkC h1), (h1, .inl (cJ, 4, .inr (.inl f)))]) (f := pf cJ kd pi bd af bo) m_w
  refine va_lald hx hb hK hP k_33 1 (hk_33.trans (congrArg (fun z => some (w, z)) (pf_b k_w))) rfl (by unfold vp_in; decide) dX4_readFrom_24 ?_
  refine lv_topl (fun y_34 ey_34 => ?_)
  have hE := bd_at ey_34 hE
  refine va_last hx hb hK hP hD hS 1 1 rfl rfl (by unfold vp_in; decide) dX4_readFrom_25 (fun H locs hP hD hS => ?_)
  have hP : va_P D vwCl ([(h0, mkC h1), (h1, .inl (cJ, 4, .inr (.inl (vp_updL f ((0 : Int32).toNatClampNeg) y_34))))] ++ va_pl L (pf cJ kd pi bd af bo)) H := hP
  have hD : va_D A ([(h0, mkC h1), (h1, .inl (cJ, 4, .inr (.inl (vp_updL f ((0 : Int32).toNatClampNeg) y_34))))] ++ va_pl L (pf cJ kd pi bd af bo)) := hD
  generalize hga_35 : vp_updL f ((0 : Int32).toNatClampNeg) y_34 = f at hP hD
  have hE := bs_at hga_35 hE
  refine lv_iinc (v := 1) (lv' := [(2, .int 1), (0, .ref h0), (1, .ref w)]) hx hb dX4_readFrom_26 hl (k := 0) rfl (by decide) (by decide) rfl (fun ls hl => ?_)
  refine lv_goto (tgt := 2) hx hb dX4_readFrom_29 (by decide) ?_
  refine lv_iload_n hx hb dX4_readFrom_2 rfl (lv_at hl 0 rfl) ?_
  refine lv_aload_n hx hb dX4_readFrom_3 rfl (lv_at hl 1 rfl) ?_
  refine va_get (D := D) (ci := 4) (v := .ref h1) (C := RX4) (T := TX4) (N := 1) hx hb ha inlX4 hown hK hP 0 rfl rfl 0 (by decide) (ha _ kf_X4_7) (fun _ h9 => h9) rfl dX4_readFrom_4 ?_
  refine va_alen hx hb hK hP 1 1 (v := 4) rfl rfl (show Int32.ofNat 4 = 4 by decide) dX4_readFrom_7 ?_
  refine lv_icmp_ge (tgt := 32) hx hb dX4_readFrom_8 (by decide) (fun c_37 => ?_) (fun c_37 => ?_)
  · exact absurd c_37 (by decide)
  refine lv_iload_n hx hb dX4_readFrom_11 rfl (lv_at hl 0 rfl) ?_
  refine lv_aload_n hx hb dX4_readFrom_12 rfl (lv_at hl 2 rfl) ?_
  obtain ⟨k_38, hk_38⟩ := va_pl_get (X := [(h0, mkC h1), (h1, .inl (cJ, 4, .inr (.inl f)))]) (f := pf cJ kd pi bd af bo) m_w
  refine va_alen hx hb hK hP k_38 1 (v := 4) (hk_38.trans (congrArg (fun z => some (w, z)) (pf_b k_w))) rfl (show Int32.ofNat 4 = 4 by decide) dX4_readFrom_13 ?_
  refine lv_icmp_ge (tgt := 32) hx hb dX4_readFrom_14 (by decide) (fun c_39 => ?_) (fun c_39 => ?_)
  · exact absurd c_39 (by decide)
  refine lv_aload_n hx hb dX4_readFrom_17 rfl (lv_at hl 1 rfl) ?_
  refine va_get (D := D) (ci := 4) (v := .ref h1) (C := RX4) (T := TX4) (N := 1) hx hb ha inlX4 hown hK hP 0 rfl rfl 0 (by decide) (ha _ kf_X4_7) (fun _ h9 => h9) rfl dX4_readFrom_18 ?_
  refine lv_iload_n hx hb dX4_readFrom_21 rfl (lv_at hl 0 rfl) ?_
  refine lv_aload_n hx hb dX4_readFrom_22 rfl (lv_at hl 2 rfl) ?_
  refine lv_iload_n hx hb dX4_readFrom_23 rfl (lv_at hl 0 rfl) ?_
  obtain ⟨k_40, hk_40⟩ := va_pl_get (X := [(h0, mkC h1), (h1, .inl (cJ, 4, .inr (.inl f)))]) (f := pf cJ kd pi bd af bo) m_w
  refine va_lald hx hb hK hP k_40 1 (hk_40.trans (congrArg (fun z => some (w, z)) (pf_b k_w))) rfl (by unfold vp_in; decide) dX4_readFrom_24 ?_
  refine lv_topl (fun y_41 ey_41 => ?_)
  have hE := bd_at ey_41 hE
  refine va_last hx hb hK hP hD hS 1 1 rfl rfl (by unfold vp_in; decide) dX4_readFrom_25 (fun H locs hP hD hS => ?_)
  have hP : va_P D vwCl ([(h0, mkC h1), (h1, .inl (cJ, 4, .inr (.inl (vp_updL f ((1 : Int32).toNatClampNeg) y_41))))] ++ va_pl L (pf cJ kd pi bd af bo)) H := hP
  have hD : va_D A ([(h0, mkC h1), (h1, .inl (cJ, 4, .inr (.inl (vp_updL f ((1 : Int32).toNatClampNeg) y_41))))] ++ va_pl L (pf cJ kd pi bd af bo)) := hD
  generalize hga_42 : vp_updL f ((1 : Int32).toNatClampNeg) y_41 = f at hP hD
  have hE := bs_at hga_42 hE
  refine lv_iinc (v := 2) (lv' := [(2, .int 2), (0, .ref h0), (1, .ref w)]) hx hb dX4_readFrom_26 hl (k := 0) rfl (by decide) (by decide) rfl (fun ls hl => ?_)
  refine lv_goto (tgt := 2) hx hb dX4_readFrom_29 (by decide) ?_
  refine lv_iload_n hx hb dX4_readFrom_2 rfl (lv_at hl 0 rfl) ?_
  refine lv_aload_n hx hb dX4_readFrom_3 rfl (lv_at hl 1 rfl) ?_
  refine va_get (D := D) (ci := 4) (v := .ref h1) (C := RX4) (T := TX4) (N := 1) hx hb ha inlX4 hown hK hP 0 rfl rfl 0 (by decide) (ha _ kf_X4_7) (fun _ h9 => h9) rfl dX4_readFrom_4 ?_
  refine va_alen hx hb hK hP 1 1 (v := 4) rfl rfl (show Int32.ofNat 4 = 4 by decide) dX4_readFrom_7 ?_
  refine lv_icmp_ge (tgt := 32) hx hb dX4_readFrom_8 (by decide) (fun c_44 => ?_) (fun c_44 => ?_)
  · exact absurd c_44 (by decide)
  refine lv_iload_n hx hb dX4_readFrom_11 rfl (lv_at hl 0 rfl) ?_
  refine lv_aload_n hx hb dX4_readFrom_12 rfl (lv_at hl 2 rfl) ?_
  obtain ⟨k_45, hk_45⟩ := va_pl_get (X := [(h0, mkC h1), (h1, .inl (cJ, 4, .inr (.inl f)))]) (f := pf cJ kd pi bd af bo) m_w
  refine va_alen hx hb hK hP k_45 1 (v := 4) (hk_45.trans (congrArg (fun z => some (w, z)) (pf_b k_w))) rfl (show Int32.ofNat 4 = 4 by decide) dX4_readFrom_13 ?_
  refine lv_icmp_ge (tgt := 32) hx hb dX4_readFrom_14 (by decide) (fun c_46 => ?_) (fun c_46 => ?_)
  · exact absurd c_46 (by decide)
  refine lv_aload_n hx hb dX4_readFrom_17 rfl (lv_at hl 1 rfl) ?_
  refine va_get (D := D) (ci := 4) (v := .ref h1) (C := RX4) (T := TX4) (N := 1) hx hb ha inlX4 hown hK hP 0 rfl rfl 0 (by decide) (ha _ kf_X4_7) (fun _ h9 => h9) rfl dX4_readFrom_18 ?_
  refine lv_iload_n hx hb dX4_readFrom_21 rfl (lv_at hl 0 rfl) ?_
  refine lv_aload_n hx hb dX4_readFrom_22 rfl (lv_at hl 2 rfl) ?_
  refine lv_iload_n hx hb dX4_readFrom_23 rfl (lv_at hl 0 rfl) ?_
  obtain ⟨k_47, hk_47⟩ := va_pl_get (X := [(h0, mkC h1), (h1, .inl (cJ, 4, .inr (.inl f)))]) (f := pf cJ kd pi bd af bo) m_w
  refine va_lald hx hb hK hP k_47 1 (hk_47.trans (congrArg (fun z => some (w, z)) (pf_b k_w))) rfl (by unfold vp_in; decide) dX4_readFrom_24 ?_
  refine lv_topl (fun y_48 ey_48 => ?_)
  have hE := bd_at ey_48 hE
  refine va_last hx hb hK hP hD hS 1 1 rfl rfl (by unfold vp_in; decide) dX4_readFrom_25 (fun H locs hP hD hS => ?_)
  have hP : va_P D vwCl ([(h0, mkC h1), (h1, .inl (cJ, 4, .inr (.inl (vp_updL f ((2 : Int32).toNatClampNeg) y_48))))] ++ va_pl L (pf cJ kd pi bd af bo)) H := hP
  have hD : va_D A ([(h0, mkC h1), (h1, .inl (cJ, 4, .inr (.inl (vp_updL f ((2 : Int32).toNatClampNeg) y_48))))] ++ va_pl L (pf cJ kd pi bd af bo)) := hD
  generalize hga_49 : vp_updL f ((2 : Int32).toNatClampNeg) y_48 = f at hP hD
  have hE := bs_at hga_49 hE
  refine lv_iinc (v := 3) (lv' := [(2, .int 3), (0, .ref h0), (1, .ref w)]) hx hb dX4_readFrom_26 hl (k := 0) rfl (by decide) (by decide) rfl (fun ls hl => ?_)
  refine lv_goto (tgt := 2) hx hb dX4_readFrom_29 (by decide) ?_
  refine lv_iload_n hx hb dX4_readFrom_2 rfl (lv_at hl 0 rfl) ?_
  refine lv_aload_n hx hb dX4_readFrom_3 rfl (lv_at hl 1 rfl) ?_
  refine va_get (D := D) (ci := 4) (v := .ref h1) (C := RX4) (T := TX4) (N := 1) hx hb ha inlX4 hown hK hP 0 rfl rfl 0 (by decide) (ha _ kf_X4_7) (fun _ h9 => h9) rfl dX4_readFrom_4 ?_
  refine va_alen hx hb hK hP 1 1 (v := 4) rfl rfl (show Int32.ofNat 4 = 4 by decide) dX4_readFrom_7 ?_
  refine lv_icmp_ge (tgt := 32) hx hb dX4_readFrom_8 (by decide) (fun c_51 => ?_) (fun c_51 => ?_)
  · exact absurd c_51 (by decide)
  refine lv_iload_n hx hb dX4_readFrom_11 rfl (lv_at hl 0 rfl) ?_
  refine lv_aload_n hx hb dX4_readFrom_12 rfl (lv_at hl 2 rfl) ?_
  obtain ⟨k_52, hk_52⟩ := va_pl_get (X := [(h0, mkC h1), (h1, .inl (cJ, 4, .inr (.inl f)))]) (f := pf cJ kd pi bd af bo) m_w
  refine va_alen hx hb hK hP k_52 1 (v := 4) (hk_52.trans (congrArg (fun z => some (w, z)) (pf_b k_w))) rfl (show Int32.ofNat 4 = 4 by decide) dX4_readFrom_13 ?_
  refine lv_icmp_ge (tgt := 32) hx hb dX4_readFrom_14 (by decide) (fun c_53 => ?_) (fun c_53 => ?_)
  · exact absurd c_53 (by decide)
  refine lv_aload_n hx hb dX4_readFrom_17 rfl (lv_at hl 1 rfl) ?_
  refine va_get (D := D) (ci := 4) (v := .ref h1) (C := RX4) (T := TX4) (N := 1) hx hb ha inlX4 hown hK hP 0 rfl rfl 0 (by decide) (ha _ kf_X4_7) (fun _ h9 => h9) rfl dX4_readFrom_18 ?_
  refine lv_iload_n hx hb dX4_readFrom_21 rfl (lv_at hl 0 rfl) ?_
  refine lv_aload_n hx hb dX4_readFrom_22 rfl (lv_at hl 2 rfl) ?_
  refine lv_iload_n hx hb dX4_readFrom_23 rfl (lv_at hl 0 rfl) ?_
  obtain ⟨k_54, hk_54⟩ := va_pl_get (X := [(h0, mkC h1), (h1, .inl (cJ, 4, .inr (.inl f)))]) (f := pf cJ kd pi bd af bo) m_w
  refine va_lald hx hb hK hP k_54 1 (hk_54.trans (congrArg (fun z => some (w, z)) (pf_b k_w))) rfl (by unfold vp_in; decide) dX4_readFrom_24 ?_
  refine lv_topl (fun y_55 ey_55 => ?_)
  have hE := bd_at ey_55 hE
  refine va_last hx hb hK hP hD hS 1 1 rfl rfl (by unfold vp_in; decide) dX4_readFrom_25 (fun H locs hP hD hS => ?_)
  have hP : va_P D vwCl ([(h0, mkC h1), (h1, .inl (cJ, 4, .inr (.inl (vp_updL f ((3 : Int32).toNatClampNeg) y_55))))] ++ va_pl L (pf cJ kd pi bd af bo)) H := hP
  have hD : va_D A ([(h0, mkC h1), (h1, .inl (cJ, 4, .inr (.inl (vp_updL f ((3 : Int32).toNatClampNeg) y_55))))] ++ va_pl L (pf cJ kd pi bd af bo)) := hD
  generalize hga_56 : vp_updL f ((3 : Int32).toNatClampNeg) y_55 = f at hP hD
  have hE := bs_at hga_56 hE
  refine lv_iinc (v := 4) (lv' := [(2, .int 4), (0, .ref h0), (1, .ref w)]) hx hb dX4_readFrom_26 hl (k := 0) rfl (by decide) (by decide) rfl (fun ls hl => ?_)
  refine lv_goto (tgt := 2) hx hb dX4_readFrom_29 (by decide) ?_
  refine lv_iload_n hx hb dX4_readFrom_2 rfl (lv_at hl 0 rfl) ?_
  refine lv_aload_n hx hb dX4_readFrom_3 rfl (lv_at hl 1 rfl) ?_
  refine va_get (D := D) (ci := 4) (v := .ref h1) (C := RX4) (T := TX4) (N := 1) hx hb ha inlX4 hown hK hP 0 rfl rfl 0 (by decide) (ha _ kf_X4_7) (fun _ h9 => h9) rfl dX4_readFrom_4 ?_
  refine va_alen hx hb hK hP 1 1 (v := 4) rfl rfl (show Int32.ofNat 4 = 4 by decide) dX4_readFrom_7 ?_
  refine lv_icmp_ge (tgt := 32) hx hb dX4_readFrom_8 (by decide) (fun c_58 => ?_) (fun c_58 => ?_)
  rotate_left
  · exact absurd (by decide) c_58
  have hP9 : va_P D vwCl ([(h0, mkC h1), (h1, .inl (cJ, 4, .inr (.inl f)))] ++ va_pl L (pf cJ kd pi bd af bo)) _ := hP
  have hD9 : va_D A ([(h0, mkC h1), (h1, .inl (cJ, 4, .inr (.inl f)))] ++ va_pl L (pf cJ kd pi bd af bo)) := hD
  exact W.vret hx hb hr (fun t ht hW => ⟨⟨(), rfl, trivial, ⟨f, (by rw [← hRES, hE]), by rw [ht]; exact hP9, va_K.moved hW.alike hK, hD9⟩⟩, hS.F ht⟩) hS.2.2 dX4_readFrom_32
