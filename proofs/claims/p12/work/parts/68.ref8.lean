set_option maxRecDepth 100000 in
def x_moreTold (f : Int32) (g : Int32) (n1 : Int32) (mi : Nat → Int32) (ma : Nat → Nat → Int32) : XT := bd (ma 54 f.toNatClampNeg) (fun v1 => (if v1 = (0 : Int32) then bd (va_up ma 53 (upd (ma 53) f.toNatClampNeg (0 : Int32))) (fun a31 => bd (a31 47 f.toNatClampNeg) (fun v32 => bd (a31 48 f.toNatClampNeg) (fun v33 => (if v33 ≤ v32 then bc (x_grows f mi a31) (fun m34 a35 _ => (m34, a35, 0)) else bd (a31 47 f.toNatClampNeg) (fun v37 => bd (v37 + (1024 : Int32)) (fun v38 => bc (x_opens f v38 mi a31) (fun m39 a40 _ => (m39, a40, 0)))))))) else bd (ma 42 f.toNatClampNeg) (fun v2 => (if v2 = (0 : Int32) then bd (ma 48 f.toNatClampNeg) (fun v3 => bc (x_opens f v3 mi ma) (fun m4 a5 _ => bd (va_up a5 54 (upd (a5 54) f.toNatClampNeg (vp_nar .boolean (0 : Int32)))) (fun a7 => bd (va_up a7 53 (upd (a7 53) f.toNatClampNeg (0 : Int32))) (fun a8 => (m4, a8, 0))))) else bd (ma 55 f.toNatClampNeg) (fun v9 => (if g < v9 then bd (ma 42 f.toNatClampNeg) (fun v10 => (if v10 = (3 : Int32) then (mi, ma, 0) else bd (ma 44 f.toNatClampNeg) (fun v11 => bc (x_sendsAgain f v11 mi ma) (fun m12 a13 _ => bd (a13 47 f.toNatClampNeg) (fun v15 => bd ((1024 : Int32) * n1) (fun v16 => bd (v15 - v16) (fun v17 => bd (v17 + (1024 : Int32)) (fun v18 => (if (1024 : Int32) ≤ v18 then bc (x_opens f v18 m12 a13) (fun m19 a20 _ => (m19, a20, 0)) else bc (x_opens f (1024 : Int32) m12 a13) (fun m22 a23 _ => (m22, a23, 0))))))))))) else bd (ma 48 f.toNatClampNeg) (fun v25 => bc (x_opens f v25 mi ma) (fun m26 a27 _ => bd (va_up a27 54 (upd (a27 54) f.toNatClampNeg (vp_nar .boolean (0 : Int32)))) (fun a29 => bd (va_up a29 53 (upd (a29 53) f.toNatClampNeg (0 : Int32))) (fun a30 => (m26, a30, 0)))))))))))
set_option maxHeartbeats 4000000 in
set_option maxRecDepth 100000 in
theorem m_moreTold (l : Launch) (D : va_G) (cI cJ cZ cO : ClassId) (sz : Nat) (h0 : Nat) (mq : Nat → Nat) (mi : Nat → Int32) (ma : Nat → Nat → Int32) (ph : Nat) (cl : Int) (f g n1 : Int32) (hI : MB mi ma) (hf0 : 0 ≤ f.toInt) (hf4 : f.toInt < 4) (hff : f.toInt < (mi 32).toInt) (hga : g.toInt = (ma 44 f.toNatClampNeg).toInt) (hn0 : 0 ≤ n1.toInt) (hn1 : n1.toInt ≤ 1000001) : Met l yX11_moreTold (wa yX11_moreTold cX11_moreTold 5 none) ({ frames := 3, cells := 0, slots := 0, locals := 69 }) (va_Pc [.ref h0, .int f, .int g, .int n1] (pw_s D cI cJ cZ cO sz (mw cI cZ h0 mq mi ma))) (va_Qv (fun (_ : Unit) => True) (fun (_ : Unit) (t : State) => ∃ (mi2 : Nat → Int32) (ma2 : Nat → Nat → Int32), ((MB mi2 ma2 ∧ (∀ k, k ∉ ([26, 30, 28, 27, 6, 5] : List Nat) → mi2 k = mi k) ∧ (∀ k, k ∉ ([53, 47, 68, 67, 64, 65, 66, 54, 31, 7, 8, 9, 59, 69, 46, 70, 61, 72] : List Nat) → ma2 k = ma k)) ∧ mi2 = (x_moreTold f g n1 mi ma).1 ∧ ma2 = (x_moreTold f g n1 mi ma).2.1) ∧ pw_t D cI cJ cZ cO (va_A (mw cI cZ h0 mq mi ma) sz) (mw cI cZ h0 mq mi2 ma2) t) (va_A (mw cI cZ h0 mq mi ma) sz)) 0 0 (va_A (mw cI cZ h0 mq mi ma) sz) := by
  refine Met.ofW (cc := cX11_moreTold) (maxL := 5) (ret := none) (by decide) rfl ?_
  intro p e s m args below meth c s₁ B hml hv
  obtain ⟨rfl, hsz, hP, hK, hD0, hN⟩ := hv
  have hx := B.exec
  have hb := B.bytes
  have hr := B.returns
  have hts := atoms_spec (ws := (wa yX11_moreTold cX11_moreTold 5 none)) B.pre
  have ha : ∀ w ∈ wsL_law, w.before _ s = true := fun w h => hts w (List.mem_cons_of_mem _ h)
  have hown : s.vm.findClass RX11 = some m.cls := findClass_of_methodNamed B.named
  have hlocks := B.notSynchronized
  subst hsz
  have hD := hD0.self (sz := s.heap.size)
  generalize hAe : va_A (mw cI cZ h0 mq mi ma) s.heap.size = A at hD ⊢
  have hA : ∀ q : Nat, s.heap.size ≤ q → A q := fun q h => by rw [← hAe]; exact Or.inr h
  have hS : va_S A s.heap s.heap [] := va_S.rf
  have hP : va_P D vwCl (mw cI cZ h0 mq mi ma) s.heap := hP
  have hl := lv_entry ([.ref h0, .int f, .int g, .int n1]) (n := 5) (Nat.le_of_ble_eq_true rfl)
  rw [lg_entry_eq]
  generalize (lg_sl ([.ref h0, .int f, .int g, .int n1]) ++ List.replicate (5 - (lg_sl ([.ref h0, .int f, .int g, .int n1])).length) Slot.unset).toArray = ls at hl ⊢
  have hl : lv_has ls 5 [(0, .ref h0), (1, .int f), (2, .int g), (3, .int n1)] := hl
  have kc_m1 := tk_m1
  have kc_0 := tk_0
  have kc_1 := tk_1
  have kc_3 := tk_3
  have kc_1024 := tk_1024
  obtain ⟨mi0, hmi0⟩ : ∃ y, y = mi := ⟨_, rfl⟩
  obtain ⟨ma0, hma0⟩ : ∃ y, y = ma := ⟨_, rfl⟩
  have hFI : ∀ k, k ∉ ([26, 30, 28, 27, 6, 5] : List Nat) → mi k = mi0 k := fun k _ => by rw [hmi0]
  have hFA : ∀ k, k ∉ ([53, 47, 68, 67, 64, 65, 66, 54, 31, 7, 8, 9, 59, 69, 46, 70, 61, 72] : List Nat) → ma k = ma0 k := fun k _ => by rw [hma0]
  obtain ⟨QP, hQP⟩ : ∃ y : State → Prop, y = (MQ below (va_Qv (fun (_ : Unit) => True) (fun (_ : Unit) (t : State) => ∃ (mi2 : Nat → Int32) (ma2 : Nat → Nat → Int32), ((MB mi2 ma2 ∧ (∀ k, k ∉ ([26, 30, 28, 27, 6, 5] : List Nat) → mi2 k = mi k) ∧ (∀ k, k ∉ ([53, 47, 68, 67, 64, 65, 66, 54, 31, 7, 8, 9, 59, 69, 46, 70, 61, 72] : List Nat) → ma2 k = ma k)) ∧ mi2 = (x_moreTold f g n1 mi ma).1 ∧ ma2 = (x_moreTold f g n1 mi ma).2.1) ∧ pw_t D cI cJ cZ cO A (mw cI cZ h0 mq mi2 ma2) t) A) #[(.ref h0 : Value), (.int f : Value), (.int g : Value), (.int n1 : Value)] s 0 0 A) := ⟨_, rfl⟩
  obtain ⟨RES, hRES⟩ : ∃ y, y = (x_moreTold f g n1 mi ma) := ⟨_, rfl⟩
  have hfN : f.toNatClampNeg < 4 := in_lt (vpi_of (n := 4) hf0 (by omega))
  have hle := MB_le2n hI f.toNatClampNeg hfN
  have hlh := MB_le2h hI f.toNatClampNeg hfN
  have y44 : (ma0 44 f.toNatClampNeg).toInt = (ma 44 f.toNatClampNeg).toInt := by rw [hma0]
  have y45 := MB_nxt hI f.toNatClampNeg hfN
  have y44b := MB_una hI f.toNatClampNeg hfN
  -- from the entry
  have hE := hRES
  unfold x_moreTold at hE
  refine lv_aload_n hx hb dX11_moreTold_0 rfl (lv_at hl 0 rfl) ?_
  refine va_get (D := D) (ci := 11) (v := .ref (mq 54)) (C := RX11) (T := TX11) (N := 74) hx hb ha inlX11 hown hK hP 0 mw_at0 rfl 54 (by decide) (ha _ kf_X11_130) (fun _ h9 => h9) rfl dX11_moreTold_1 ?_
  refine lv_iload_n hx hb dX11_moreTold_4 rfl (lv_at hl 1 rfl) ?_
  have hin_1 : vp_in f 4 := vpi_of (by omega) (by omega)
  refine va_zald hx hb hK hP 36 2 mw_at54 rfl hin_1 dX11_moreTold_5 ?_
  refine lv_topi (fun x_2 ex_2 => ?_)
  have hE := bd_at ex_2 hE
  have u_x_2 := congrArg Int32.toInt ex_2
  refine lv_if_ne (tgt := 55) hx hb dX11_moreTold_6 (by decide) (fun c_3 => ?_) (fun c_3 => ?_)
  · have t_c_3 := mt Int32.toInt_inj.mp c_3
    have hE := hE.trans (if_neg c_3)
    refine lv_aload_n hx hb dX11_moreTold_55 rfl (lv_at hl 0 rfl) ?_
    refine va_get (D := D) (ci := 11) (v := .ref (mq 42)) (C := RX11) (T := TX11) (N := 74) hx hb ha inlX11 hown hK hP 0 mw_at0 rfl 42 (by decide) (ha _ kf_X11_94) (fun _ h9 => h9) rfl dX11_moreTold_56 ?_
    refine lv_iload_n hx hb dX11_moreTold_59 rfl (lv_at hl 1 rfl) ?_
    have hin_4 : vp_in f 4 := vpi_of (by omega) (by omega)
    refine va_iald hx hb hK hP 24 0 mw_at42 rfl hin_4 dX11_moreTold_60 ?_
    refine lv_topi (fun x_5 ex_5 => ?_)
    have hE := bd_at ex_5 hE
    have u_x_5 := congrArg Int32.toInt ex_5
    refine lv_if_eq (tgt := 74) hx hb dX11_moreTold_61 (by decide) (fun c_6 => ?_) (fun c_6 => ?_)
    · have t_c_6 := congrArg Int32.toInt c_6
      have hE := hE.trans (if_pos c_6)
      refine lv_aload_n hx hb dX11_moreTold_74 rfl (lv_at hl 0 rfl) ?_
      refine lv_iload_n hx hb dX11_moreTold_75 rfl (lv_at hl 1 rfl) ?_
      refine lv_aload_n hx hb dX11_moreTold_76 rfl (lv_at hl 0 rfl) ?_
      refine va_get (D := D) (ci := 11) (v := .ref (mq 48)) (C := RX11) (T := TX11) (N := 74) hx hb ha inlX11 hown hK hP 0 mw_at0 rfl 48 (by decide) (ha _ kf_X11_112) (fun _ h9 => h9) rfl dX11_moreTold_77 ?_
      refine lv_iload_n hx hb dX11_moreTold_80 rfl (lv_at hl 1 rfl) ?_
      have hin_7 : vp_in f 4 := vpi_of (by omega) (by omega)
      refine va_iald hx hb hK hP 30 0 mw_at48 rfl hin_7 dX11_moreTold_81 ?_
      refine lv_topi (fun x_8 ex_8 => ?_)
      have hE := bd_at ex_8 hE
      have u_x_8 := congrArg Int32.toInt ex_8
      have r_x_8 := rg_ld (MB_ssthresh hI) hin_7 ex_8
      have g1_x_8 := ge1_ld (MB_ge1s hI) hf0 (by rw [hFI 32 (by decide), hmi0]; omega) ex_8
      have nz_x_8 : ¬ x_8 = 0 := nz_of g1_x_8
      have hFc := va_freeW hD hS hA
      refine va_callv (va_runV (As := [.int f, .int x_8]) (rest := []) ⟨hx, hb, hml, hown, ha⟩ (m_opens l D cI cJ cZ cO _ h0 mq mi ma ph cl f x_8 hI hf0 hf4 (by omega)) (cwV 2 ha (gaV kl_X11_295 km_X11_opens ks_X11_opens kz_X11 kd_X11_opens) rfl rfl rfl (by decide +kernel) ⟨Nat.le_of_ble_eq_true rfl, Nat.le_of_ble_eq_true rfl⟩) ⟨pw_blind, va_recv hK hP (ci := 11) (q0 := 0) rfl rfl, fun U hU hW => ⟨rfl, pw_start hU hW hP hK hD hN⟩⟩ rfl rfl hl.1 rfl (lv_room (Nat.le_of_ble_eq_true rfl)) dX11_moreTold_82 ⟨Nat.le_of_ble_eq_true rfl, Nat.le_of_ble_eq_true rfl⟩) hS (fun q _ h => hFc q h) hFc (fun u t H1 locs ht hvm hw hB hz1 hk1 hS => ?_)
      obtain ⟨mi_10, ma_11, ⟨hf_12, hX1, hX2⟩, hP, hK1, hD1⟩ := hB
      have hE := bc_atv hX1 hX2 hE
      rw [ht] at hP
      have hD := hD1.weaken (fun k q _ h => hFc q.1 h)
      clear hD1
      generalize H1 = H at hP hS ⊢
      refine W.widen (k := 0) (n := 0) (Nat.le_refl _) (Nat.le_refl _) ?_
      have hI := hf_12.1
      have hFI : ∀ k, k ∉ ([26, 30, 28, 27, 6, 5] : List Nat) → mi_10 k = mi0 k := fun k hk => (hf_12.2.1 k (fun h => hk (by revert h; exact sub_of (by decide) k))).trans (hFI k hk)
      have hFA : ∀ k, k ∉ ([53, 47, 68, 67, 64, 65, 66, 54, 31, 7, 8, 9, 59, 69, 46, 70, 61, 72] : List Nat) → ma_11 k = ma0 k := fun k hk => (hf_12.2.2 k (fun h => hk (by revert h; exact sub_of (by decide) k))).trans (hFA k hk)
      refine lv_aload_n hx hb dX11_moreTold_85 rfl (lv_at hl 0 rfl) ?_
      refine va_get (D := D) (ci := 11) (v := .ref (mq 54)) (C := RX11) (T := TX11) (N := 74) hx hb ha inlX11 hown hK hP 0 mw_at0 rfl 54 (by decide) (ha _ kf_X11_130) (fun _ h9 => h9) rfl dX11_moreTold_86 ?_
      refine lv_iload_n hx hb dX11_moreTold_89 rfl (lv_at hl 1 rfl) ?_
      refine lv_iconst (v := 0) hx hb dX11_moreTold_90 (by decide) ?_
      have hin_13 : vp_in f 4 := vpi_of (by omega) (by omega)
      refine va_zast hx hb hK hP hD hS 36 2 mw_at54 rfl hin_13 dX11_moreTold_91 (fun H locs hP hD hS => ?_)
      have hP : va_P D vwCl (mw cI cZ h0 mq mi_10 (va_up ma_11 54 (upd (ma_11 54) f.toNatClampNeg (vp_nar .boolean (0 : Int32))))) H := mwP_54 hP
      have hD : va_D A (mw cI cZ h0 mq mi_10 (va_up ma_11 54 (upd (ma_11 54) f.toNatClampNeg (vp_nar .boolean (0 : Int32))))) := mwD_54 hD
      generalize hma_14 : va_up ma_11 54 (upd (ma_11 54) f.toNatClampNeg (vp_nar .boolean (0 : Int32))) = ma_14 at hP hD
      have hI : MB mi_10 ma_14 := by rw [← hma_14]; exact MBa_recovers hI
      have hFA : ∀ k, k ∉ ([53, 47, 68, 67, 64, 65, 66, 54, 31, 7, 8, 9, 59, 69, 46, 70, 61, 72] : List Nat) → ma_14 k = ma0 k := fun k hk => by rw [← hma_14]; exact (va_up_ne _ _ (fun e => hk (by rw [e]; decide))).trans (hFA k hk)
      have hE := bs_at hma_14 hE
      refine lv_aload_n hx hb dX11_moreTold_92 rfl (lv_at hl 0 rfl) ?_
      refine va_get (D := D) (ci := 11) (v := .ref (mq 53)) (C := RX11) (T := TX11) (N := 74) hx hb ha inlX11 hown hK hP 0 mw_at0 rfl 53 (by decide) (ha _ kf_X11_127) (fun _ h9 => h9) rfl dX11_moreTold_93 ?_
      refine lv_iload_n hx hb dX11_moreTold_96 rfl (lv_at hl 1 rfl) ?_
      refine lv_iconst (v := 0) hx hb dX11_moreTold_97 (by decide) ?_
      have hin_15 : vp_in f 4 := vpi_of (by omega) (by omega)
      refine va_iast hx hb hK hP hD hS 35 0 mw_at53 rfl hin_15 dX11_moreTold_98 (fun H locs hP hD hS => ?_)
      have hP : va_P D vwCl (mw cI cZ h0 mq mi_10 (va_up ma_14 53 (upd (ma_14 53) f.toNatClampNeg (0 : Int32)))) H := mwP_53 hP
      have hD : va_D A (mw cI cZ h0 mq mi_10 (va_up ma_14 53 (upd (ma_14 53) f.toNatClampNeg (0 : Int32)))) := mwD_53 hD
      generalize hma_16 : va_up ma_14 53 (upd (ma_14 53) f.toNatClampNeg (0 : Int32)) = ma_16 at hP hD
      have hI : MB mi_10 ma_16 := by rw [← hma_16]; exact MBa_dup hI
      have hFA : ∀ k, k ∉ ([53, 47, 68, 67, 64, 65, 66, 54, 31, 7, 8, 9, 59, 69, 46, 70, 61, 72] : List Nat) → ma_16 k = ma0 k := fun k hk => by rw [← hma_16]; exact (va_up_ne _ _ (fun e => hk (by rw [e]; decide))).trans (hFA k hk)
      have hE := bs_at hma_16 hE
      exact W.vret hx hb hr (fun t ht hW => ⟨⟨(), rfl, trivial, ⟨mi_10, ma_16, ⟨⟨hI, fun k hk => (hFI k hk).trans (by rw [hmi0]), fun k hk => (hFA k hk).trans (by rw [hma0])⟩, by rw [← hRES, hE], by rw [← hRES, hE]⟩, by rw [ht]; exact hP, va_K.moved hW.alike hK, hD⟩⟩, hS.F ht⟩) hS.2.2 dX11_moreTold_99
    · have t_c_6 := mt Int32.toInt_inj.mp c_6
      have hE := hE.trans (if_neg c_6)
      refine lv_iload_n hx hb dX11_moreTold_64 rfl (lv_at hl 2 rfl) ?_
      refine lv_aload_n hx hb dX11_moreTold_65 rfl (lv_at hl 0 rfl) ?_
      refine va_get (D := D) (ci := 11) (v := .ref (mq 55)) (C := RX11) (T := TX11) (N := 74) hx hb ha inlX11 hown hK hP 0 mw_at0 rfl 55 (by decide) (ha _ kf_X11_133) (fun _ h9 => h9) rfl dX11_moreTold_66 ?_
      refine lv_iload_n hx hb dX11_moreTold_69 rfl (lv_at hl 1 rfl) ?_
      have hin_17 : vp_in f 4 := vpi_of (by omega) (by omega)
      refine va_iald hx hb hK hP 37 0 mw_at55 rfl hin_17 dX11_moreTold_70 ?_
      refine lv_topi (fun x_18 ex_18 => ?_)
      have hE := bd_at ex_18 hE
      have u_x_18 := congrArg Int32.toInt ex_18
      have r_x_18 := rg_ld (MB_recover hI) hin_17 ex_18
      refine lv_icmp_lt (tgt := 100) hx hb dX11_moreTold_71 (by decide) (fun c_19 => ?_) (fun c_19 => ?_)
      · have t_c_19 := Int32.lt_iff_toInt_lt.mp c_19
        have hE := hE.trans (if_pos c_19)
        refine lv_aload_n hx hb dX11_moreTold_100 rfl (lv_at hl 0 rfl) ?_
        refine va_get (D := D) (ci := 11) (v := .ref (mq 42)) (C := RX11) (T := TX11) (N := 74) hx hb ha inlX11 hown hK hP 0 mw_at0 rfl 42 (by decide) (ha _ kf_X11_94) (fun _ h9 => h9) rfl dX11_moreTold_101 ?_
        refine lv_iload_n hx hb dX11_moreTold_104 rfl (lv_at hl 1 rfl) ?_
        have hin_20 : vp_in f 4 := vpi_of (by omega) (by omega)
        refine va_iald hx hb hK hP 24 0 mw_at42 rfl hin_20 dX11_moreTold_105 ?_
        refine lv_topi (fun x_21 ex_21 => ?_)
        have hE := bd_at ex_21 hE
        have u_x_21 := congrArg Int32.toInt ex_21
        refine lv_iconst (v := 3) hx hb dX11_moreTold_106 (by decide) ?_
        refine lv_icmp_ne (tgt := 111) hx hb dX11_moreTold_107 (by decide) (fun c_22 => ?_) (fun c_22 => ?_)
        · have t_c_22 := mt Int32.toInt_inj.mp c_22
          have hE := hE.trans (if_neg c_22)
          refine lv_aload_n hx hb dX11_moreTold_111 rfl (lv_at hl 0 rfl) ?_
          refine lv_iload_n hx hb dX11_moreTold_112 rfl (lv_at hl 1 rfl) ?_
          refine lv_aload_n hx hb dX11_moreTold_113 rfl (lv_at hl 0 rfl) ?_
          refine va_get (D := D) (ci := 11) (v := .ref (mq 44)) (C := RX11) (T := TX11) (N := 74) hx hb ha inlX11 hown hK hP 0 mw_at0 rfl 44 (by decide) (ha _ kf_X11_100) (fun _ h9 => h9) rfl dX11_moreTold_114 ?_
          refine lv_iload_n hx hb dX11_moreTold_117 rfl (lv_at hl 1 rfl) ?_
          have hin_23 : vp_in f 4 := vpi_of (by omega) (by omega)
          refine va_iald hx hb hK hP 26 0 mw_at44 rfl hin_23 dX11_moreTold_118 ?_
          refine lv_topi (fun x_24 ex_24 => ?_)
          have hE := bd_at ex_24 hE
          have u_x_24 := congrArg Int32.toInt ex_24
          have r_x_24 := rg_ld (MB_una hI) hin_23 ex_24
          have z_x_24 := congrArg Int32.toInt (congrFun (hFA 44 (by decide)) f.toNatClampNeg)
          have hFc := va_freeW hD hS hA
          refine va_callv (va_runV (As := [.int f, .int x_24]) (rest := []) ⟨hx, hb, hml, hown, ha⟩ (m_sendsAgain l D cI cJ cZ cO _ h0 mq mi ma ph cl f x_24 hI hf0 hf4 (by rw [hFI 32 (by decide), hmi0]; omega) (by omega) (by omega) (by omega)) (cwV 2 ha (gaV kl_X11_301 km_X11_sendsAgain ks_X11_sendsAgain kz_X11 kd_X11_sendsAgain) rfl rfl rfl (by decide +kernel) ⟨Nat.le_of_ble_eq_true rfl, Nat.le_of_ble_eq_true rfl⟩) ⟨pw_blind, va_recv hK hP (ci := 11) (q0 := 0) rfl rfl, fun U hU hW => ⟨rfl, pw_start hU hW hP hK hD hN⟩⟩ rfl rfl hl.1 rfl (lv_room (Nat.le_of_ble_eq_true rfl)) dX11_moreTold_119 ⟨Nat.le_of_ble_eq_true rfl, Nat.le_of_ble_eq_true rfl⟩) hS (fun q _ h => hFc q h) hFc (fun u t H1 locs ht hvm hw hB hz1 hk1 hS => ?_)
          obtain ⟨mi_26, ma_27, ⟨hf_28, hX1, hX2⟩, hP, hK1, hD1⟩ := hB
          have hE := bc_atv hX1 hX2 hE
          rw [ht] at hP
          have hD := hD1.weaken (fun k q _ h => hFc q.1 h)
          clear hD1
          generalize H1 = H at hP hS ⊢
          refine W.widen (k := 0) (n := 0) (Nat.le_refl _) (Nat.le_refl _) ?_
          have hI := hf_28.1
          have hFI : ∀ k, k ∉ ([26, 30, 28, 27, 6, 5] : List Nat) → mi_26 k = mi0 k := fun k hk => (hf_28.2.1 k (fun h => hk (by revert h; exact sub_of (by decide) k))).trans (hFI k hk)
          have hFA : ∀ k, k ∉ ([53, 47, 68, 67, 64, 65, 66, 54, 31, 7, 8, 9, 59, 69, 46, 70, 61, 72] : List Nat) → ma_27 k = ma0 k := fun k hk => (hf_28.2.2.1 k (fun h => hk (by revert h; exact sub_of (by decide) k))).trans (hFA k hk)
          refine lv_aload_n hx hb dX11_moreTold_122 rfl (lv_at hl 0 rfl) ?_
          refine va_get (D := D) (ci := 11) (v := .ref (mq 47)) (C := RX11) (T := TX11) (N := 74) hx hb ha inlX11 hown hK hP 0 mw_at0 rfl 47 (by decide) (ha _ kf_X11_109) (fun _ h9 => h9) rfl dX11_moreTold_123 ?_
          refine lv_iload_n hx hb dX11_moreTold_126 rfl (lv_at hl 1 rfl) ?_
          have hin_29 : vp_in f 4 := vpi_of (by omega) (by omega)
          refine va_iald hx hb hK hP 29 0 mw_at47 rfl hin_29 dX11_moreTold_127 ?_
          refine lv_topi (fun x_30 ex_30 => ?_)
          have hE := bd_at ex_30 hE
          have u_x_30 := congrArg Int32.toInt ex_30
          have r_x_30 := rg_ld (MB_cwnd hI) hin_29 ex_30
          have g1_x_30 := ge1_ld (MB_ge1c hI) hf0 (by rw [hFI 32 (by decide), hmi0]; omega) ex_30
          have nz_x_30 : ¬ x_30 = 0 := nz_of g1_x_30
          refine lv_sipush (v := 1024) hx hb dX11_moreTold_128 (by decide) ?_
          refine lv_iload_n hx hb dX11_moreTold_131 rfl (lv_at hl 3 rfl) ?_
          refine lv_imul hx hb dX11_moreTold_132 ?_
          refine lv_topi (fun x_31 ex_31 => ?_)
          have hE := bd_at ex_31 hE
          try have t_x_31 := ti_mulc (k := 1024) ex_31 tk_1024 (by omega) (by omega)
          refine lv_isub hx hb dX11_moreTold_133 ?_
          refine lv_topi (fun x_32 ex_32 => ?_)
          have hE := bd_at ex_32 hE
          try have t_x_32 := ti_sub ex_32 (by omega) (by omega)
          refine lv_sipush (v := 1024) hx hb dX11_moreTold_134 (by decide) ?_
          refine lv_iadd hx hb dX11_moreTold_137 ?_
          refine lv_topi (fun x_33 ex_33 => ?_)
          have hE := bd_at ex_33 hE
          try have t_x_33 := ti_add ex_33 (by omega) (by omega)
          refine lv_istore (lv' := [(4, .int x_33), (0, .ref h0), (1, .int f), (2, .int g), (3, .int n1)]) hx hb dX11_moreTold_138 hl (by decide) rfl (fun ls hl => ?_)
          refine lv_aload_n hx hb dX11_moreTold_140 rfl (lv_at hl 1 rfl) ?_
          refine lv_iload_n hx hb dX11_moreTold_141 rfl (lv_at hl 2 rfl) ?_
          refine lv_iload hx hb dX11_moreTold_142 (lv_at hl 0 rfl) ?_
          refine lv_sipush (v := 1024) hx hb dX11_moreTold_144 (by decide) ?_
          refine lv_icmp_ge (tgt := 156) hx hb dX11_moreTold_147 (by decide) (fun c_34 => ?_) (fun c_34 => ?_)
          · have t_c_34 := Int32.le_iff_toInt_le.mp c_34
            have hE := hE.trans (if_pos c_34)
            refine lv_iload hx hb dX11_moreTold_156 (lv_at hl 0 rfl) ?_
            have hFc := va_freeW hD hS hA
            refine va_callv (va_runV (As := [.int f, .int x_33]) (rest := []) ⟨hx, hb, hml, hown, ha⟩ (m_opens l D cI cJ cZ cO _ h0 mq mi_26 ma_27 ph cl f x_33 hI hf0 hf4 (by omega)) (cwV 2 ha (gaV kl_X11_295 km_X11_opens ks_X11_opens kz_X11 kd_X11_opens) rfl rfl rfl (by decide +kernel) ⟨Nat.le_of_ble_eq_true rfl, Nat.le_of_ble_eq_true rfl⟩) ⟨pw_blind, va_recv hK hP (ci := 11) (q0 := 0) rfl rfl, fun U hU hW => ⟨rfl, pw_start hU hW hP hK hD hN⟩⟩ rfl rfl hl.1 rfl (lv_room (Nat.le_of_ble_eq_true rfl)) dX11_moreTold_158 ⟨Nat.le_of_ble_eq_true rfl, Nat.le_of_ble_eq_true rfl⟩) hS (fun q _ h => hFc q h) hFc (fun u t H1 locs ht hvm hw hB hz1 hk1 hS => ?_)
            obtain ⟨mi_36, ma_37, ⟨hf_38, hX1, hX2⟩, hP, hK1, hD1⟩ := hB
            have hE := bc_atv hX1 hX2 hE
            rw [ht] at hP
            have hD := hD1.weaken (fun k q _ h => hFc q.1 h)
            clear hD1
            generalize H1 = H at hP hS ⊢
            refine W.widen (k := 0) (n := 0) (Nat.le_refl _) (Nat.le_refl _) ?_
            have hI := hf_38.1
            have hFI : ∀ k, k ∉ ([26, 30, 28, 27, 6, 5] : List Nat) → mi_36 k = mi0 k := fun k hk => (hf_38.2.1 k (fun h => hk (by revert h; exact sub_of (by decide) k))).trans (hFI k hk)
            have hFA : ∀ k, k ∉ ([53, 47, 68, 67, 64, 65, 66, 54, 31, 7, 8, 9, 59, 69, 46, 70, 61, 72] : List Nat) → ma_37 k = ma0 k := fun k hk => (hf_38.2.2 k (fun h => hk (by revert h; exact sub_of (by decide) k))).trans (hFA k hk)
            exact W.vret hx hb hr (fun t ht hW => ⟨⟨(), rfl, trivial, ⟨mi_36, ma_37, ⟨⟨hI, fun k hk => (hFI k hk).trans (by rw [hmi0]), fun k hk => (hFA k hk).trans (by rw [hma0])⟩, by rw [← hRES, hE], by rw [← hRES, hE]⟩, by rw [ht]; exact hP, va_K.moved hW.alike hK, hD⟩⟩, hS.F ht⟩) hS.2.2 dX11_moreTold_161
          · have t_c_34 := Int32.lt_iff_toInt_lt.mp (Int32.not_le.mp c_34)
            have hE := hE.trans (if_neg c_34)
            refine lv_sipush (v := 1024) hx hb dX11_moreTold_150 (by decide) ?_
            refine lv_goto (tgt := 158) hx hb dX11_moreTold_153 (by decide) ?_
            have hFc := va_freeW hD hS hA
            refine va_callv (va_runV (As := [.int f, .int 1024]) (rest := []) ⟨hx, hb, hml, hown, ha⟩ (m_opens l D cI cJ cZ cO _ h0 mq mi_26 ma_27 ph cl f 1024 hI hf0 hf4 (by omega)) (cwV 2 ha (gaV kl_X11_295 km_X11_opens ks_X11_opens kz_X11 kd_X11_opens) rfl rfl rfl (by decide +kernel) ⟨Nat.le_of_ble_eq_true rfl, Nat.le_of_ble_eq_true rfl⟩) ⟨pw_blind, va_recv hK hP (ci := 11) (q0 := 0) rfl rfl, fun U hU hW => ⟨rfl, pw_start hU hW hP hK hD hN⟩⟩ rfl rfl hl.1 rfl (lv_room (Nat.le_of_ble_eq_true rfl)) dX11_moreTold_158 ⟨Nat.le_of_ble_eq_true rfl, Nat.le_of_ble_eq_true rfl⟩) hS (fun q _ h => hFc q h) hFc (fun u t H1 locs ht hvm hw hB hz1 hk1 hS => ?_)
            obtain ⟨mi_40, ma_41, ⟨hf_42, hX1, hX2⟩, hP, hK1, hD1⟩ := hB
            have hE := bc_atv hX1 hX2 hE
            rw [ht] at hP
            have hD := hD1.weaken (fun k q _ h => hFc q.1 h)
            clear hD1
            generalize H1 = H at hP hS ⊢
            refine W.widen (k := 0) (n := 0) (Nat.le_refl _) (Nat.le_refl _) ?_
            have hI := hf_42.1
            have hFI : ∀ k, k ∉ ([26, 30, 28, 27, 6, 5] : List Nat) → mi_40 k = mi0 k := fun k hk => (hf_42.2.1 k (fun h => hk (by revert h; exact sub_of (by decide) k))).trans (hFI k hk)
            have hFA : ∀ k, k ∉ ([53, 47, 68, 67, 64, 65, 66, 54, 31, 7, 8, 9, 59, 69, 46, 70, 61, 72] : List Nat) → ma_41 k = ma0 k := fun k hk => (hf_42.2.2 k (fun h => hk (by revert h; exact sub_of (by decide) k))).trans (hFA k hk)
            exact W.vret hx hb hr (fun t ht hW => ⟨⟨(), rfl, trivial, ⟨mi_40, ma_41, ⟨⟨hI, fun k hk => (hFI k hk).trans (by rw [hmi0]), fun k hk => (hFA k hk).trans (by rw [hma0])⟩, by rw [← hRES, hE], by rw [← hRES, hE]⟩, by rw [ht]; exact hP, va_K.moved hW.alike hK, hD⟩⟩, hS.F ht⟩) hS.2.2 dX11_moreTold_161
        · have t_c_22 := congrArg Int32.toInt c_22
          have hE := hE.trans (if_pos c_22)
          exact W.vret hx hb hr (fun t ht hW => ⟨⟨(), rfl, trivial, ⟨mi, ma, ⟨⟨hI, fun k hk => (hFI k hk).trans (by rw [hmi0]), fun k hk => (hFA k hk).trans (by rw [hma0])⟩, by rw [← hRES, hE], by rw [← hRES, hE]⟩, by rw [ht]; exact hP, va_K.moved hW.alike hK, hD⟩⟩, hS.F ht⟩) hS.2.2 dX11_moreTold_110
      · have t_c_19 := Int32.le_iff_toInt_le.mp (Int32.not_lt.mp c_19)
        have hE := hE.trans (if_neg c_19)
        refine lv_aload_n hx hb dX11_moreTold_74 rfl (lv_at hl 0 rfl) ?_
        refine lv_iload_n hx hb dX11_moreTold_75 rfl (lv_at hl 1 rfl) ?_
        refine lv_aload_n hx hb dX11_moreTold_76 rfl (lv_at hl 0 rfl) ?_
        refine va_get (D := D) (ci := 11) (v := .ref (mq 48)) (C := RX11) (T := TX11) (N := 74) hx hb ha inlX11 hown hK hP 0 mw_at0 rfl 48 (by decide) (ha _ kf_X11_112) (fun _ h9 => h9) rfl dX11_moreTold_77 ?_
        refine lv_iload_n hx hb dX11_moreTold_80 rfl (lv_at hl 1 rfl) ?_
        have hin_43 : vp_in f 4 := vpi_of (by omega) (by omega)
        refine va_iald hx hb hK hP 30 0 mw_at48 rfl hin_43 dX11_moreTold_81 ?_
        refine lv_topi (fun x_44 ex_44 => ?_)
        have hE := bd_at ex_44 hE
        have u_x_44 := congrArg Int32.toInt ex_44
        have r_x_44 := rg_ld (MB_ssthresh hI) hin_43 ex_44
        have g1_x_44 := ge1_ld (MB_ge1s hI) hf0 (by rw [hFI 32 (by decide), hmi0]; omega) ex_44
        have nz_x_44 : ¬ x_44 = 0 := nz_of g1_x_44
        have hFc := va_freeW hD hS hA
        refine va_callv (va_runV (As := [.int f, .int x_44]) (rest := []) ⟨hx, hb, hml, hown, ha⟩ (m_opens l D cI cJ cZ cO _ h0 mq mi ma ph cl f x_44 hI hf0 hf4 (by omega)) (cwV 2 ha (gaV kl_X11_295 km_X11_opens ks_X11_opens kz_X11 kd_X11_opens) rfl rfl rfl (by decide +kernel) ⟨Nat.le_of_ble_eq_true rfl, Nat.le_of_ble_eq_true rfl⟩) ⟨pw_blind, va_recv hK hP (ci := 11) (q0 := 0) rfl rfl, fun U hU hW => ⟨rfl, pw_start hU hW hP hK hD hN⟩⟩ rfl rfl hl.1 rfl (lv_room (Nat.le_of_ble_eq_true rfl)) dX11_moreTold_82 ⟨Nat.le_of_ble_eq_true rfl, Nat.le_of_ble_eq_true rfl⟩) hS (fun q _ h => hFc q h) hFc (fun u t H1 locs ht hvm hw hB hz1 hk1 hS => ?_)
        obtain ⟨mi_46, ma_47, ⟨hf_48, hX1, hX2⟩, hP, hK1, hD1⟩ := hB
        have hE := bc_atv hX1 hX2 hE
        rw [ht] at hP
        have hD := hD1.weaken (fun k q _ h => hFc q.1 h)
        clear hD1
        generalize H1 = H at hP hS ⊢
        refine W.widen (k := 0) (n := 0) (Nat.le_refl _) (Nat.le_refl _) ?_
        have hI := hf_48.1
        have hFI : ∀ k, k ∉ ([26, 30, 28, 27, 6, 5] : List Nat) → mi_46 k = mi0 k := fun k hk => (hf_48.2.1 k (fun h => hk (by revert h; exact sub_of (by decide) k))).trans (hFI k hk)
        have hFA : ∀ k, k ∉ ([53, 47, 68, 67, 64, 65, 66, 54, 31, 7, 8, 9, 59, 69, 46, 70, 61, 72] : List Nat) → ma_47 k = ma0 k := fun k hk => (hf_48.2.2 k (fun h => hk (by revert h; exact sub_of (by decide) k))).trans (hFA k hk)
        refine lv_aload_n hx hb dX11_moreTold_85 rfl (lv_at hl 0 rfl) ?_
        refine va_get (D := D) (ci := 11) (v := .ref (mq 54)) (C := RX11) (T := TX11) (N := 74) hx hb ha inlX11 hown hK hP 0 mw_at0 rfl 54 (by decide) (ha _ kf_X11_130) (fun _ h9 => h9) rfl dX11_moreTold_86 ?_
        refine lv_iload_n hx hb dX11_moreTold_89 rfl (lv_at hl 1 rfl) ?_
        refine lv_iconst (v := 0) hx hb dX11_moreTold_90 (by decide) ?_
        have hin_49 : vp_in f 4 := vpi_of (by omega) (by omega)
        refine va_zast hx hb hK hP hD hS 36 2 mw_at54 rfl hin_49 dX11_moreTold_91 (fun H locs hP hD hS => ?_)
        have hP : va_P D vwCl (mw cI cZ h0 mq mi_46 (va_up ma_47 54 (upd (ma_47 54) f.toNatClampNeg (vp_nar .boolean (0 : Int32))))) H := mwP_54 hP
        have hD : va_D A (mw cI cZ h0 mq mi_46 (va_up ma_47 54 (upd (ma_47 54) f.toNatClampNeg (vp_nar .boolean (0 : Int32))))) := mwD_54 hD
        generalize hma_50 : va_up ma_47 54 (upd (ma_47 54) f.toNatClampNeg (vp_nar .boolean (0 : Int32))) = ma_50 at hP hD
        have hI : MB mi_46 ma_50 := by rw [← hma_50]; exact MBa_recovers hI
        have hFA : ∀ k, k ∉ ([53, 47, 68, 67, 64, 65, 66, 54, 31, 7, 8, 9, 59, 69, 46, 70, 61, 72] : List Nat) → ma_50 k = ma0 k := fun k hk => by rw [← hma_50]; exact (va_up_ne _ _ (fun e => hk (by rw [e]; decide))).trans (hFA k hk)
        have hE := bs_at hma_50 hE
        refine lv_aload_n hx hb dX11_moreTold_92 rfl (lv_at hl 0 rfl) ?_
        refine va_get (D := D) (ci := 11) (v := .ref (mq 53)) (C := RX11) (T := TX11) (N := 74) hx hb ha inlX11 hown hK hP 0 mw_at0 rfl 53 (by decide) (ha _ kf_X11_127) (fun _ h9 => h9) rfl dX11_moreTold_93 ?_
        refine lv_iload_n hx hb dX11_moreTold_96 rfl (lv_at hl 1 rfl) ?_
        refine lv_iconst (v := 0) hx hb dX11_moreTold_97 (by decide) ?_
        have hin_51 : vp_in f 4 := vpi_of (by omega) (by omega)
        refine va_iast hx hb hK hP hD hS 35 0 mw_at53 rfl hin_51 dX11_moreTold_98 (fun H locs hP hD hS => ?_)
        have hP : va_P D vwCl (mw cI cZ h0 mq mi_46 (va_up ma_50 53 (upd (ma_50 53) f.toNatClampNeg (0 : Int32)))) H := mwP_53 hP
        have hD : va_D A (mw cI cZ h0 mq mi_46 (va_up ma_50 53 (upd (ma_50 53) f.toNatClampNeg (0 : Int32)))) := mwD_53 hD
        generalize hma_52 : va_up ma_50 53 (upd (ma_50 53) f.toNatClampNeg (0 : Int32)) = ma_52 at hP hD
        have hI : MB mi_46 ma_52 := by rw [← hma_52]; exact MBa_dup hI
        have hFA : ∀ k, k ∉ ([53, 47, 68, 67, 64, 65, 66, 54, 31, 7, 8, 9, 59, 69, 46, 70, 61, 72] : List Nat) → ma_52 k = ma0 k := fun k hk => by rw [← hma_52]; exact (va_up_ne _ _ (fun e => hk (by rw [e]; decide))).trans (hFA k hk)
        have hE := bs_at hma_52 hE
        exact W.vret hx hb hr (fun t ht hW => ⟨⟨(), rfl, trivial, ⟨mi_46, ma_52, ⟨⟨hI, fun k hk => (hFI k hk).trans (by rw [hmi0]), fun k hk => (hFA k hk).trans (by rw [hma0])⟩, by rw [← hRES, hE], by rw [← hRES, hE]⟩, by rw [ht]; exact hP, va_K.moved hW.alike hK, hD⟩⟩, hS.F ht⟩) hS.2.2 dX11_moreTold_99
  · have t_c_3 := congrArg Int32.toInt c_3
    have hE := hE.trans (if_pos c_3)
    refine lv_aload_n hx hb dX11_moreTold_9 rfl (lv_at hl 0 rfl) ?_
    refine va_get (D := D) (ci := 11) (v := .ref (mq 53)) (C := RX11) (T := TX11) (N := 74) hx hb ha inlX11 hown hK hP 0 mw_at0 rfl 53 (by decide) (ha _ kf_X11_127) (fun _ h9 => h9) rfl dX11_moreTold_10 ?_
    refine lv_iload_n hx hb dX11_moreTold_13 rfl (lv_at hl 1 rfl) ?_
    refine lv_iconst (v := 0) hx hb dX11_moreTold_14 (by decide) ?_
    have hin_53 : vp_in f 4 := vpi_of (by omega) (by omega)
    refine va_iast hx hb hK hP hD hS 35 0 mw_at53 rfl hin_53 dX11_moreTold_15 (fun H locs hP hD hS => ?_)
    have hP : va_P D vwCl (mw cI cZ h0 mq mi (va_up ma 53 (upd (ma 53) f.toNatClampNeg (0 : Int32)))) H := mwP_53 hP
    have hD : va_D A (mw cI cZ h0 mq mi (va_up ma 53 (upd (ma 53) f.toNatClampNeg (0 : Int32)))) := mwD_53 hD
    generalize hma_54 : va_up ma 53 (upd (ma 53) f.toNatClampNeg (0 : Int32)) = ma_54 at hP hD
    have hI : MB mi ma_54 := by rw [← hma_54]; exact MBa_dup hI
    have hFA : ∀ k, k ∉ ([53, 47, 68, 67, 64, 65, 66, 54, 31, 7, 8, 9, 59, 69, 46, 70, 61, 72] : List Nat) → ma_54 k = ma0 k := fun k hk => by rw [← hma_54]; exact (va_up_ne _ _ (fun e => hk (by rw [e]; decide))).trans (hFA k hk)
    have hE := bs_at hma_54 hE
    refine lv_aload_n hx hb dX11_moreTold_16 rfl (lv_at hl 0 rfl) ?_
    refine va_get (D := D) (ci := 11) (v := .ref (mq 47)) (C := RX11) (T := TX11) (N := 74) hx hb ha inlX11 hown hK hP 0 mw_at0 rfl 47 (by decide) (ha _ kf_X11_109) (fun _ h9 => h9) rfl dX11_moreTold_17 ?_
    refine lv_iload_n hx hb dX11_moreTold_20 rfl (lv_at hl 1 rfl) ?_
    have hin_55 : vp_in f 4 := vpi_of (by omega) (by omega)
    refine va_iald hx hb hK hP 29 0 mw_at47 rfl hin_55 dX11_moreTold_21 ?_
    refine lv_topi (fun x_56 ex_56 => ?_)
    have hE := bd_at ex_56 hE
    have u_x_56 := congrArg Int32.toInt ex_56
    have r_x_56 := rg_ld (MB_cwnd hI) hin_55 ex_56
    have g1_x_56 := ge1_ld (MB_ge1c hI) hf0 (by rw [hFI 32 (by decide), hmi0]; omega) ex_56
    have nz_x_56 : ¬ x_56 = 0 := nz_of g1_x_56
    refine lv_aload_n hx hb dX11_moreTold_22 rfl (lv_at hl 0 rfl) ?_
    refine va_get (D := D) (ci := 11) (v := .ref (mq 48)) (C := RX11) (T := TX11) (N := 74) hx hb ha inlX11 hown hK hP 0 mw_at0 rfl 48 (by decide) (ha _ kf_X11_112) (fun _ h9 => h9) rfl dX11_moreTold_23 ?_
    refine lv_iload_n hx hb dX11_moreTold_26 rfl (lv_at hl 1 rfl) ?_
    have hin_57 : vp_in f 4 := vpi_of (by omega) (by omega)
    refine va_iald hx hb hK hP 30 0 mw_at48 rfl hin_57 dX11_moreTold_27 ?_
    refine lv_topi (fun x_58 ex_58 => ?_)
    have hE := bd_at ex_58 hE
    have u_x_58 := congrArg Int32.toInt ex_58
    have r_x_58 := rg_ld (MB_ssthresh hI) hin_57 ex_58
    have g1_x_58 := ge1_ld (MB_ge1s hI) hf0 (by rw [hFI 32 (by decide), hmi0]; omega) ex_58
    have nz_x_58 : ¬ x_58 = 0 := nz_of g1_x_58
    refine lv_icmp_ge (tgt := 49) hx hb dX11_moreTold_28 (by decide) (fun c_59 => ?_) (fun c_59 => ?_)
    · have t_c_59 := Int32.le_iff_toInt_le.mp c_59
      have hE := hE.trans (if_pos c_59)
      refine lv_aload_n hx hb dX11_moreTold_49 rfl (lv_at hl 0 rfl) ?_
      refine lv_iload_n hx hb dX11_moreTold_50 rfl (lv_at hl 1 rfl) ?_
      have hFc := va_freeW hD hS hA
      refine va_callv (va_runV (As := [.int f]) (rest := []) ⟨hx, hb, hml, hown, ha⟩ (m_grows l D cI cJ cZ cO _ h0 mq mi ma_54 ph cl f hI hf0 hf4 (by rw [hFI 32 (by decide), hmi0]; omega)) (cwV 1 ha (gaV kl_X11_298 km_X11_grows ks_X11_grows kz_X11 kd_X11_grows) rfl rfl rfl (by decide +kernel) ⟨Nat.le_of_ble_eq_true rfl, Nat.le_of_ble_eq_true rfl⟩) ⟨pw_blind, va_recv hK hP (ci := 11) (q0 := 0) rfl rfl, fun U hU hW => ⟨rfl, pw_start hU hW hP hK hD hN⟩⟩ rfl rfl hl.1 rfl (lv_room (Nat.le_of_ble_eq_true rfl)) dX11_moreTold_51 ⟨Nat.le_of_ble_eq_true rfl, Nat.le_of_ble_eq_true rfl⟩) hS (fun q _ h => hFc q h) hFc (fun u t H1 locs ht hvm hw hB hz1 hk1 hS => ?_)
      obtain ⟨mi_61, ma_62, ⟨hf_63, hX1, hX2⟩, hP, hK1, hD1⟩ := hB
      have hE := bc_atv hX1 hX2 hE
      rw [ht] at hP
      have hD := hD1.weaken (fun k q _ h => hFc q.1 h)
      clear hD1
      generalize H1 = H at hP hS ⊢
      refine W.widen (k := 0) (n := 0) (Nat.le_refl _) (Nat.le_refl _) ?_
      have hI := hf_63.1
      have hFI : ∀ k, k ∉ ([26, 30, 28, 27, 6, 5] : List Nat) → mi_61 k = mi0 k := fun k hk => (hf_63.2.1 k (fun h => hk (by revert h; exact sub_of (by decide) k))).trans (hFI k hk)
      have hFA : ∀ k, k ∉ ([53, 47, 68, 67, 64, 65, 66, 54, 31, 7, 8, 9, 59, 69, 46, 70, 61, 72] : List Nat) → ma_62 k = ma0 k := fun k hk => (hf_63.2.2 k (fun h => hk (by revert h; exact sub_of (by decide) k))).trans (hFA k hk)
      exact W.vret hx hb hr (fun t ht hW => ⟨⟨(), rfl, trivial, ⟨mi_61, ma_62, ⟨⟨hI, fun k hk => (hFI k hk).trans (by rw [hmi0]), fun k hk => (hFA k hk).trans (by rw [hma0])⟩, by rw [← hRES, hE], by rw [← hRES, hE]⟩, by rw [ht]; exact hP, va_K.moved hW.alike hK, hD⟩⟩, hS.F ht⟩) hS.2.2 dX11_moreTold_54
    · have t_c_59 := Int32.lt_iff_toInt_lt.mp (Int32.not_le.mp c_59)
      have hE := hE.trans (if_neg c_59)
      refine lv_aload_n hx hb dX11_moreTold_31 rfl (lv_at hl 0 rfl) ?_
      refine lv_iload_n hx hb dX11_moreTold_32 rfl (lv_at hl 1 rfl) ?_
      refine lv_aload_n hx hb dX11_moreTold_33 rfl (lv_at hl 0 rfl) ?_
      refine va_get (D := D) (ci := 11) (v := .ref (mq 47)) (C := RX11) (T := TX11) (N := 74) hx hb ha inlX11 hown hK hP 0 mw_at0 rfl 47 (by decide) (ha _ kf_X11_109) (fun _ h9 => h9) rfl dX11_moreTold_34 ?_
      refine lv_iload_n hx hb dX11_moreTold_37 rfl (lv_at hl 1 rfl) ?_
      have hin_64 : vp_in f 4 := vpi_of (by omega) (by omega)
      refine va_iald hx hb hK hP 29 0 mw_at47 rfl hin_64 dX11_moreTold_38 ?_
      refine lv_topi (fun x_65 ex_65 => ?_)
      have hE := bd_at ex_65 hE
      have u_x_65 := congrArg Int32.toInt ex_65
      have r_x_65 := rg_ld (MB_cwnd hI) hin_64 ex_65
      have g1_x_65 := ge1_ld (MB_ge1c hI) hf0 (by rw [hFI 32 (by decide), hmi0]; omega) ex_65
      have nz_x_65 : ¬ x_65 = 0 := nz_of g1_x_65
      refine lv_sipush (v := 1024) hx hb dX11_moreTold_39 (by decide) ?_
      refine lv_iadd hx hb dX11_moreTold_42 ?_
      refine lv_topi (fun x_66 ex_66 => ?_)
      have hE := bd_at ex_66 hE
      try have t_x_66 := ti_add ex_66 (by omega) (by omega)
      have hFc := va_freeW hD hS hA
      refine va_callv (va_runV (As := [.int f, .int x_66]) (rest := []) ⟨hx, hb, hml, hown, ha⟩ (m_opens l D cI cJ cZ cO _ h0 mq mi ma_54 ph cl f x_66 hI hf0 hf4 (by omega)) (cwV 2 ha (gaV kl_X11_295 km_X11_opens ks_X11_opens kz_X11 kd_X11_opens) rfl rfl rfl (by decide +kernel) ⟨Nat.le_of_ble_eq_true rfl, Nat.le_of_ble_eq_true rfl⟩) ⟨pw_blind, va_recv hK hP (ci := 11) (q0 := 0) rfl rfl, fun U hU hW => ⟨rfl, pw_start hU hW hP hK hD hN⟩⟩ rfl rfl hl.1 rfl (lv_room (Nat.le_of_ble_eq_true rfl)) dX11_moreTold_43 ⟨Nat.le_of_ble_eq_true rfl, Nat.le_of_ble_eq_true rfl⟩) hS (fun q _ h => hFc q h) hFc (fun u t H1 locs ht hvm hw hB hz1 hk1 hS => ?_)
      obtain ⟨mi_68, ma_69, ⟨hf_70, hX1, hX2⟩, hP, hK1, hD1⟩ := hB
      have hE := bc_atv hX1 hX2 hE
      rw [ht] at hP
      have hD := hD1.weaken (fun k q _ h => hFc q.1 h)
      clear hD1
      generalize H1 = H at hP hS ⊢
      refine W.widen (k := 0) (n := 0) (Nat.le_refl _) (Nat.le_refl _) ?_
      have hI := hf_70.1
      have hFI : ∀ k, k ∉ ([26, 30, 28, 27, 6, 5] : List Nat) → mi_68 k = mi0 k := fun k hk => (hf_70.2.1 k (fun h => hk (by revert h; exact sub_of (by decide) k))).trans (hFI k hk)
      have hFA : ∀ k, k ∉ ([53, 47, 68, 67, 64, 65, 66, 54, 31, 7, 8, 9, 59, 69, 46, 70, 61, 72] : List Nat) → ma_69 k = ma0 k := fun k hk => (hf_70.2.2 k (fun h => hk (by revert h; exact sub_of (by decide) k))).trans (hFA k hk)
      refine lv_goto (tgt := 54) hx hb dX11_moreTold_46 (by decide) ?_
      exact W.vret hx hb hr (fun t ht hW => ⟨⟨(), rfl, trivial, ⟨mi_68, ma_69, ⟨⟨hI, fun k hk => (hFI k hk).trans (by rw [hmi0]), fun k hk => (hFA k hk).trans (by rw [hma0])⟩, by rw [← hRES, hE], by rw [← hRES, hE]⟩, by rw [ht]; exact hP, va_K.moved hW.alike hK, hD⟩⟩, hS.F ht⟩) hS.2.2 dX11_moreTold_54
