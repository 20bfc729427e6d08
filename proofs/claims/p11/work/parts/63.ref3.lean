set_option maxRecDepth 100000 in
def x_puts_19 (f : Int32) (g : Int32) (pb : Int32) : Nat → (Nat → Int32) → (Nat → Nat → Int32) → Int32 → Int32 → XT
  | 0, mi, ma, _, _ => (mi, ma, 0)
  | fu + 1, mi, ma, i4, i5 => bd (mi 30) (fun v1 => (if v1 ≤ i5 then bd (mi 6) (fun v2 => bd (mi 1) (fun v3 => (if v2 ≤ v3 then bd (mi 6) (fun v4 => bd (va_up ma 7 (upd (ma 7) v4.toNatClampNeg f)) (fun a5 => bd (mi 6) (fun v6 => bd (va_up a5 8 (upd (a5 8) v6.toNatClampNeg g)) (fun a7 => bd (mi 6) (fun v8 => bd (va_up a7 9 (upd (a7 9) v8.toNatClampNeg (vp_nar .boolean pb))) (fun a9 => bd (mi 6) (fun v10 => (if v10 = (0 : Int32) then bd (mi 4) (fun v14 => bd (mi 0) (fun v15 => bd (v14 + v15) (fun v16 => bd (upd mi 5 v16) (fun m17 => bd (m17 6) (fun v18 => bd (v18 + (1 : Int32)) (fun v19 => bd (upd m17 6 v19) (fun m20 => (m20, a9, 0)))))))) else bd (mi 6) (fun v11 => bd (v11 + (1 : Int32)) (fun v12 => bd (upd mi 6 v12) (fun m13 => (m13, a9, 0)))))))))))) else bd (mi 27) (fun v21 => bd (v21 + (1 : Int32)) (fun v22 => bd (upd mi 27 v22) (fun m23 => (m23, ma, 0))))))) else bd (ma 31 i5.toNatClampNeg) (fun v24 => (if v24 = i4 then bd (mi 30) (fun v25 => bd (v25 - (1 : Int32)) (fun v26 => bd (upd mi 30 v26) (fun m27 => bd (m27 30) (fun v28 => bd (ma 31 v28.toNatClampNeg) (fun v29 => bd (va_up ma 31 (upd (ma 31) i5.toNatClampNeg v29)) (fun a30 => bd (m27 28) (fun v31 => bd (v31 + (1 : Int32)) (fun v32 => bd (upd m27 28 v32) (fun m33 => (m33, a30, 0)))))))))) else bd (i5 + 1) (fun v34 => x_puts_19 f g pb fu mi ma i4 v34)))))
set_option maxRecDepth 100000 in
def x_puts (f : Int32) (g : Int32) (pb : Int32) (mi : Nat → Int32) (ma : Nat → Nat → Int32) : XT := bd (mi 26) (fun v35 => bd (mi 26) (fun v36 => bd (v36 + (1 : Int32)) (fun v37 => bd (upd mi 26 v37) (fun m38 => x_puts_19 f g pb 65 m38 ma v35 (0 : Int32)))))
set_option maxHeartbeats 4000000 in
set_option maxRecDepth 100000 in
theorem m_puts (l : Launch) (D : va_G) (cI cJ cZ cO : ClassId) (sz : Nat) (h0 : Nat) (mq : Nat → Nat) (mi : Nat → Int32) (ma : Nat → Nat → Int32) (ph : Nat) (cl : Int) (f g pb : Int32) (hI : MB mi ma) (hf0 : 0 ≤ f.toInt) (hf4 : f.toInt < 4) (hff : f.toInt < (mi 32).toInt) (hg0 : 0 ≤ g.toInt) (hg1 : g.toInt ≤ 1000000) : Met l yX11_puts (wa yX11_puts cX11_puts 6 none) ({ frames := 0, cells := 0, slots := 0, locals := 0 }) (va_Pc [.ref h0, .int f, .int g, .int pb] (pw_s D cI cJ cZ cO sz (mw cI cZ h0 mq mi ma))) (va_Qv (fun (_ : Unit) => True) (fun (_ : Unit) (t : State) => ∃ (mi2 : Nat → Int32) (ma2 : Nat → Nat → Int32), ((MB mi2 ma2 ∧ (∀ k, k ∉ ([26, 30, 28, 27, 6, 5] : List Nat) → mi2 k = mi k) ∧ (∀ k, k ∉ ([31, 7, 8, 9] : List Nat) → ma2 k = ma k)) ∧ mi2 = (x_puts f g pb mi ma).1 ∧ ma2 = (x_puts f g pb mi ma).2.1) ∧ pw_t D cI cJ cZ cO (va_A (mw cI cZ h0 mq mi ma) sz) (mw cI cZ h0 mq mi2 ma2) t) (va_A (mw cI cZ h0 mq mi ma) sz)) 0 0 (va_A (mw cI cZ h0 mq mi ma) sz) := by
  refine Met.ofW (cc := cX11_puts) (maxL := 6) (ret := none) (by decide) rfl ?_
  intro p e s m args below meth c s₁ B hml hv
  obtain ⟨rfl, hsz, hP, hK, hD0, hN⟩ := hv
  have hx := B.exec
  have hb := B.bytes
  have hr := B.returns
  have hts := atoms_spec (ws := (wa yX11_puts cX11_puts 6 none)) B.pre
  have ha : ∀ w ∈ wsL_law, w.before _ s = true := fun w h => hts w (List.mem_cons_of_mem _ h)
  have hown : s.vm.findClass RX11 = some m.cls := findClass_of_methodNamed B.named
  have hlocks := B.notSynchronized
  subst hsz
  have hD := hD0.self (sz := s.heap.size)
  generalize hAe : va_A (mw cI cZ h0 mq mi ma) s.heap.size = A at hD ⊢
  have hA : ∀ q : Nat, s.heap.size ≤ q → A q := fun q h => by rw [← hAe]; exact Or.inr h
  have hS : va_S A s.heap s.heap [] := va_S.rf
  have hP : va_P D vwCl (mw cI cZ h0 mq mi ma) s.heap := hP
  have hl := lv_entry ([.ref h0, .int f, .int g, .int pb]) (n := 6) (Nat.le_of_ble_eq_true rfl)
  rw [lg_entry_eq]
  generalize (lg_sl ([.ref h0, .int f, .int g, .int pb]) ++ List.replicate (6 - (lg_sl ([.ref h0, .int f, .int g, .int pb])).length) Slot.unset).toArray = ls at hl ⊢
  have hl : lv_has ls 6 [(0, .ref h0), (1, .int f), (2, .int g), (3, .int pb)] := hl
  have kc_m1 := tk_m1
  have kc_0 := tk_0
  have kc_1 := tk_1
  obtain ⟨mi0, hmi0⟩ : ∃ y, y = mi := ⟨_, rfl⟩
  obtain ⟨ma0, hma0⟩ : ∃ y, y = ma := ⟨_, rfl⟩
  have hFI : ∀ k, k ∉ ([26, 30, 28, 27, 6, 5] : List Nat) → mi k = mi0 k := fun k _ => by rw [hmi0]
  have hFA : ∀ k, k ∉ ([31, 7, 8, 9] : List Nat) → ma k = ma0 k := fun k _ => by rw [hma0]
  obtain ⟨QP, hQP⟩ : ∃ y : State → Prop, y = (MQ below (va_Qv (fun (_ : Unit) => True) (fun (_ : Unit) (t : State) => ∃ (mi2 : Nat → Int32) (ma2 : Nat → Nat → Int32), ((MB mi2 ma2 ∧ (∀ k, k ∉ ([26, 30, 28, 27, 6, 5] : List Nat) → mi2 k = mi k) ∧ (∀ k, k ∉ ([31, 7, 8, 9] : List Nat) → ma2 k = ma k)) ∧ mi2 = (x_puts f g pb mi ma).1 ∧ ma2 = (x_puts f g pb mi ma).2.1) ∧ pw_t D cI cJ cZ cO A (mw cI cZ h0 mq mi2 ma2) t) A) #[(.ref h0 : Value), (.int f : Value), (.int g : Value), (.int pb : Value)] s 0 0 A) := ⟨_, rfl⟩
  obtain ⟨RES, hRES⟩ : ∃ y, y = (x_puts f g pb mi ma) := ⟨_, rfl⟩
  have hfN : f.toNatClampNeg < 4 := in_lt (vpi_of (n := 4) hf0 (by omega))
  have hle := MB_le2n hI f.toNatClampNeg hfN
  have hlh := MB_le2h hI f.toNatClampNeg hfN
  have J_19 : ∀ (n_19 : Nat), ∀ (mi : Nat → Int32) (ma : Nat → Nat → Int32) (i4 : Int32) (i5 : Int32) (H : Heap) (locs : List Loc), va_P D vwCl (mw cI cZ h0 mq mi ma) H → va_D A (mw cI cZ h0 mq mi ma) → va_S A s.heap H locs → MB mi ma → (∀ k, k ∉ ([26, 30, 28, 27, 6, 5] : List Nat) → mi k = mi0 k) → (∀ k, k ∉ ([31, 7, 8, 9] : List Nat) → ma k = ma0 k) → RES = x_puts_19 f g pb n_19 mi ma i4 i5 → 0 ≤ i5.toInt → ∀ (ls : Array Slot), lv_has ls 6 [(0, .ref h0), (1, .int f), (2, .int g), (3, .int pb), (4, .int i4), (5, .int i5)] → ((64 - i5.toInt).toNat) < n_19 → W p l e ({ frames := 0, cells := 0, slots := 0, locals := 0 }) s m #[(.ref h0 : Value), (.int f : Value), (.int g : Value), (.int pb : Value)] below meth c H locs 0 0 QP (F0 m 19 ls []) := by
    intro n_19
    induction n_19 with
    | zero => intros; exact absurd ‹_ < 0› (Nat.not_lt_zero _)
    | succ n_19 ih_19 =>
      intro mi ma i4 i5 H locs hP hD hS hI hFI hFA hE hv ls hl hm
      have hfN : f.toNatClampNeg < 4 := in_lt (vpi_of (n := 4) hf0 (by omega))
      have hle := MB_le2n hI f.toNatClampNeg hfN
      have hlh := MB_le2h hI f.toNatClampNeg hfN
      rw [x_puts_19] at hE
      refine lv_iload hx hb dX11_puts_19 (lv_at hl 5 rfl) ?_
      refine lv_aload_n hx hb dX11_puts_21 rfl (lv_at hl 0 rfl) ?_
      refine va_get (D := D) (ci := 11) (v := .int (mi 30)) (C := RX11) (T := TX11) (N := 74) hx hb ha inlX11 hown hK hP 0 mw_at0 rfl 30 (by decide) (ha _ kf_X11_204) (fun _ h9 => h9) rfl dX11_puts_22 ?_
      refine lv_topi (fun x_1 ex_1 => ?_)
      have hE := bd_at ex_1 hE
      have u_x_1 := congrArg Int32.toInt ex_1
      have r_x_1 := MB_told hI
      rw [← ex_1] at r_x_1
      refine lv_icmp_ge (tgt := 86) hx hb dX11_puts_25 (by decide) (fun c_2 => ?_) (fun c_2 => ?_)
      · have t_c_2 := Int32.le_iff_toInt_le.mp c_2
        have hE := hE.trans (if_pos c_2)
        refine lv_aload_n hx hb dX11_puts_86 rfl (lv_at hl 0 rfl) ?_
        refine va_get (D := D) (ci := 11) (v := .int (mi 6)) (C := RX11) (T := TX11) (N := 74) hx hb ha inlX11 hown hK hP 0 mw_at0 rfl 6 (by decide) (ha _ kf_X11_230) (fun _ h9 => h9) rfl dX11_puts_87 ?_
        refine lv_topi (fun x_3 ex_3 => ?_)
        have hE := bd_at ex_3 hE
        have u_x_3 := congrArg Int32.toInt ex_3
        have r_x_3 := MB_linked hI
        rw [← ex_3] at r_x_3
        refine lv_aload_n hx hb dX11_puts_90 rfl (lv_at hl 0 rfl) ?_
        refine va_get (D := D) (ci := 11) (v := .int (mi 1)) (C := RX11) (T := TX11) (N := 74) hx hb ha inlX11 hown hK hP 0 mw_at0 rfl 1 (by decide) (ha _ kf_X11_13) (fun _ h9 => h9) rfl dX11_puts_91 ?_
        refine lv_topi (fun x_4 ex_4 => ?_)
        have hE := bd_at ex_4 hE
        have u_x_4 := congrArg Int32.toInt ex_4
        have r_x_4 := MB_room hI
        rw [← ex_4] at r_x_4
        refine lv_icmp_le (tgt := 108) hx hb dX11_puts_94 (by decide) (fun c_5 => ?_) (fun c_5 => ?_)
        · have t_c_5 := Int32.le_iff_toInt_le.mp c_5
          have hE := hE.trans (if_pos c_5)
          refine lv_aload_n hx hb dX11_puts_108 rfl (lv_at hl 0 rfl) ?_
          refine va_get (D := D) (ci := 11) (v := .ref (mq 7)) (C := RX11) (T := TX11) (N := 74) hx hb ha inlX11 hown hK hP 0 mw_at0 rfl 7 (by decide) (ha _ kf_X11_22) (fun _ h9 => h9) rfl dX11_puts_109 ?_
          refine lv_aload_n hx hb dX11_puts_112 rfl (lv_at hl 0 rfl) ?_
          refine va_get (D := D) (ci := 11) (v := .int (mi 6)) (C := RX11) (T := TX11) (N := 74) hx hb ha inlX11 hown hK hP 0 mw_at0 rfl 6 (by decide) (ha _ kf_X11_230) (fun _ h9 => h9) rfl dX11_puts_113 ?_
          refine lv_topi (fun x_6 ex_6 => ?_)
          have hE := bd_at ex_6 hE
          have u_x_6 := congrArg Int32.toInt ex_6
          have r_x_6 := MB_linked hI
          rw [← ex_6] at r_x_6
          refine lv_iload_n hx hb dX11_puts_116 rfl (lv_at hl 1 rfl) ?_
          have hin_7 : vp_in x_6 102 := vpi_of (by omega) (by omega)
          refine va_iast hx hb hK hP hD hS 1 0 mw_at7 rfl hin_7 dX11_puts_117 (fun H locs hP hD hS => ?_)
          have hP : va_P D vwCl (mw cI cZ h0 mq mi (va_up ma 7 (upd (ma 7) x_6.toNatClampNeg f))) H := mwP_7 hP
          have hD : va_D A (mw cI cZ h0 mq mi (va_up ma 7 (upd (ma 7) x_6.toNatClampNeg f))) := mwD_7 hD
          generalize hma_8 : va_up ma 7 (upd (ma 7) x_6.toNatClampNeg f) = ma_8 at hP hD
          have hI : MB mi ma_8 := by rw [← hma_8]; exact MBa_linkFlow hI (by omega) (Or.inr (by rw [hFI 32 (by decide), hmi0]; omega))
          have hFA : ∀ k, k ∉ ([31, 7, 8, 9] : List Nat) → ma_8 k = ma0 k := fun k hk => by rw [← hma_8]; exact (va_up_ne _ _ (fun e => hk (by rw [e]; decide))).trans (hFA k hk)
          have hE := bs_at hma_8 hE
          refine lv_aload_n hx hb dX11_puts_118 rfl (lv_at hl 0 rfl) ?_
          refine va_get (D := D) (ci := 11) (v := .ref (mq 8)) (C := RX11) (T := TX11) (N := 74) hx hb ha inlX11 hown hK hP 0 mw_at0 rfl 8 (by decide) (ha _ kf_X11_26) (fun _ h9 => h9) rfl dX11_puts_119 ?_
          refine lv_aload_n hx hb dX11_puts_122 rfl (lv_at hl 0 rfl) ?_
          refine va_get (D := D) (ci := 11) (v := .int (mi 6)) (C := RX11) (T := TX11) (N := 74) hx hb ha inlX11 hown hK hP 0 mw_at0 rfl 6 (by decide) (ha _ kf_X11_230) (fun _ h9 => h9) rfl dX11_puts_123 ?_
          refine lv_topi (fun x_9 ex_9 => ?_)
          have hE := bd_at ex_9 hE
          have u_x_9 := congrArg Int32.toInt ex_9
          have r_x_9 := MB_linked hI
          rw [← ex_9] at r_x_9
          refine lv_iload_n hx hb dX11_puts_126 rfl (lv_at hl 2 rfl) ?_
          have hin_10 : vp_in x_9 102 := vpi_of (by omega) (by omega)
          refine va_iast hx hb hK hP hD hS 2 0 mw_at8 rfl hin_10 dX11_puts_127 (fun H locs hP hD hS => ?_)
          have hP : va_P D vwCl (mw cI cZ h0 mq mi (va_up ma_8 8 (upd (ma_8 8) x_9.toNatClampNeg g))) H := mwP_8 hP
          have hD : va_D A (mw cI cZ h0 mq mi (va_up ma_8 8 (upd (ma_8 8) x_9.toNatClampNeg g))) := mwD_8 hD
          generalize hma_11 : va_up ma_8 8 (upd (ma_8 8) x_9.toNatClampNeg g) = ma_11 at hP hD
          have hI : MB mi ma_11 := by rw [← hma_11]; exact MBa_linkSegment hI (by omega) (by omega)
          have hFA : ∀ k, k ∉ ([31, 7, 8, 9] : List Nat) → ma_11 k = ma0 k := fun k hk => by rw [← hma_11]; exact (va_up_ne _ _ (fun e => hk (by rw [e]; decide))).trans (hFA k hk)
          have hE := bs_at hma_11 hE
          refine lv_aload_n hx hb dX11_puts_128 rfl (lv_at hl 0 rfl) ?_
          refine va_get (D := D) (ci := 11) (v := .ref (mq 9)) (C := RX11) (T := TX11) (N := 74) hx hb ha inlX11 hown hK hP 0 mw_at0 rfl 9 (by decide) (ha _ kf_X11_29) (fun _ h9 => h9) rfl dX11_puts_129 ?_
          refine lv_aload_n hx hb dX11_puts_132 rfl (lv_at hl 0 rfl) ?_
          refine va_get (D := D) (ci := 11) (v := .int (mi 6)) (C := RX11) (T := TX11) (N := 74) hx hb ha inlX11 hown hK hP 0 mw_at0 rfl 6 (by decide) (ha _ kf_X11_230) (fun _ h9 => h9) rfl dX11_puts_133 ?_
          refine lv_topi (fun x_12 ex_12 => ?_)
          have hE := bd_at ex_12 hE
          have u_x_12 := congrArg Int32.toInt ex_12
          have r_x_12 := MB_linked hI
          rw [← ex_12] at r_x_12
          refine lv_iload_n hx hb dX11_puts_136 rfl (lv_at hl 3 rfl) ?_
          have hin_13 : vp_in x_12 102 := vpi_of (by omega) (by omega)
          refine va_zast hx hb hK hP hD hS 3 2 mw_at9 rfl hin_13 dX11_puts_137 (fun H locs hP hD hS => ?_)
          have hP : va_P D vwCl (mw cI cZ h0 mq mi (va_up ma_11 9 (upd (ma_11 9) x_12.toNatClampNeg (vp_nar .boolean pb)))) H := mwP_9 hP
          have hD : va_D A (mw cI cZ h0 mq mi (va_up ma_11 9 (upd (ma_11 9) x_12.toNatClampNeg (vp_nar .boolean pb)))) := mwD_9 hD
          generalize hma_14 : va_up ma_11 9 (upd (ma_11 9) x_12.toNatClampNeg (vp_nar .boolean pb)) = ma_14 at hP hD
          have hI : MB mi ma_14 := by rw [← hma_14]; exact MBa_linkProbe hI
          have hFA : ∀ k, k ∉ ([31, 7, 8, 9] : List Nat) → ma_14 k = ma0 k := fun k hk => by rw [← hma_14]; exact (va_up_ne _ _ (fun e => hk (by rw [e]; decide))).trans (hFA k hk)
          have hE := bs_at hma_14 hE
          refine lv_aload_n hx hb dX11_puts_138 rfl (lv_at hl 0 rfl) ?_
          refine va_get (D := D) (ci := 11) (v := .int (mi 6)) (C := RX11) (T := TX11) (N := 74) hx hb ha inlX11 hown hK hP 0 mw_at0 rfl 6 (by decide) (ha _ kf_X11_230) (fun _ h9 => h9) rfl dX11_puts_139 ?_
          refine lv_topi (fun x_15 ex_15 => ?_)
          have hE := bd_at ex_15 hE
          have u_x_15 := congrArg Int32.toInt ex_15
          have r_x_15 := MB_linked hI
          rw [← ex_15] at r_x_15
          refine lv_if_ne (tgt := 158) hx hb dX11_puts_142 (by decide) (fun c_16 => ?_) (fun c_16 => ?_)
          · have t_c_16 := mt Int32.toInt_inj.mp c_16
            have hE := hE.trans (if_neg c_16)
            refine lv_aload_n hx hb dX11_puts_158 rfl (lv_at hl 0 rfl) ?_
            refine lv_dup hx hb dX11_puts_159 rfl ?_
            refine va_get (D := D) (ci := 11) (v := .int (mi 6)) (C := RX11) (T := TX11) (N := 74) hx hb ha inlX11 hown hK hP 0 mw_at0 rfl 6 (by decide) (ha _ kf_X11_230) (fun _ h9 => h9) rfl dX11_puts_160 ?_
            refine lv_topi (fun x_17 ex_17 => ?_)
            have hE := bd_at ex_17 hE
            have u_x_17 := congrArg Int32.toInt ex_17
            have r_x_17 := MB_linked hI
            rw [← ex_17] at r_x_17
            refine lv_iconst (v := 1) hx hb dX11_puts_163 (by decide) ?_
            refine lv_iadd hx hb dX11_puts_164 ?_
            refine lv_topi (fun x_18 ex_18 => ?_)
            have hE := bd_at ex_18 hE
            try have t_x_18 := ti_add ex_18 (by omega) (by omega)
            refine va_put (D := D) (ci := 11) (v := .int x_18) (ty := .int) (C := RX11) (T := TX11) (N := 74) hx hb ha inlX11 tyX11 tyX11_ok nmX11 hown hK hP hD hS 0 mw_at0 rfl 6 (by decide) (ha _ kf_X11_230) (fun _ h9 => h9) rfl (by decide +kernel) rfl rfl (Nat.le_of_ble_eq_true rfl) dX11_puts_165 (fun H locs hP hD hS => ?_)
            have hP : va_P D vwCl (mw cI cZ h0 mq (upd mi 6 x_18) ma_14) H := mwP_6 hP
            have hD : va_D A (mw cI cZ h0 mq (upd mi 6 x_18) ma_14) := mwD_6 hD
            generalize hmi_19 : upd mi 6 x_18 = mi_19 at hP hD
            have hI : MB mi_19 ma_14 := by rw [← hmi_19]; exact MBi_linked hI (by omega) (by omega) (fun q => by rw [hFI 32 (by decide), hmi0] at q; omega)
            have hFI : ∀ k, k ∉ ([26, 30, 28, 27, 6, 5] : List Nat) → mi_19 k = mi0 k := fun k hk => by rw [← hmi_19]; exact (if_neg (fun e => hk (by rw [e]; decide))).trans (hFI k hk)
            have hE := bs_at hmi_19 hE
            rw [hQP]
            exact W.vret hx hb hr (fun t ht hW => ⟨⟨(), rfl, trivial, ⟨mi_19, ma_14, ⟨⟨hI, fun k hk => (hFI k hk).trans (by rw [hmi0]), fun k hk => (hFA k hk).trans (by rw [hma0])⟩, by rw [← hRES, hE], by rw [← hRES, hE]⟩, by rw [ht]; exact hP, va_K.moved hW.alike hK, hD⟩⟩, hS.F ht⟩) hS.2.2 dX11_puts_168
          · have t_c_16 := congrArg Int32.toInt c_16
            have hE := hE.trans (if_pos c_16)
            refine lv_aload_n hx hb dX11_puts_145 rfl (lv_at hl 0 rfl) ?_
            refine lv_aload_n hx hb dX11_puts_146 rfl (lv_at hl 0 rfl) ?_
            refine va_get (D := D) (ci := 11) (v := .int (mi 4)) (C := RX11) (T := TX11) (N := 74) hx hb ha inlX11 hown hK hP 0 mw_at0 rfl 4 (by decide) (ha _ kf_X11_207) (fun _ h9 => h9) rfl dX11_puts_147 ?_
            refine lv_topi (fun x_20 ex_20 => ?_)
            have hE := bd_at ex_20 hE
            have u_x_20 := congrArg Int32.toInt ex_20
            have r_x_20 := MB_tick hI
            rw [← ex_20] at r_x_20
            refine lv_aload_n hx hb dX11_puts_150 rfl (lv_at hl 0 rfl) ?_
            refine va_get (D := D) (ci := 11) (v := .int (mi 0)) (C := RX11) (T := TX11) (N := 74) hx hb ha inlX11 hown hK hP 0 mw_at0 rfl 0 (by decide) (ha _ kf_X11_7) (fun _ h9 => h9) rfl dX11_puts_151 ?_
            refine lv_topi (fun x_21 ex_21 => ?_)
            have hE := bd_at ex_21 hE
            have u_x_21 := congrArg Int32.toInt ex_21
            refine lv_iadd hx hb dX11_puts_154 ?_
            refine lv_topi (fun x_22 ex_22 => ?_)
            have hE := bd_at ex_22 hE
            refine va_put (D := D) (ci := 11) (v := .int x_22) (ty := .int) (C := RX11) (T := TX11) (N := 74) hx hb ha inlX11 tyX11 tyX11_ok nmX11 hown hK hP hD hS 0 mw_at0 rfl 5 (by decide) (ha _ kf_X11_233) (fun _ h9 => h9) rfl (by decide +kernel) rfl rfl (Nat.le_of_ble_eq_true rfl) dX11_puts_155 (fun H locs hP hD hS => ?_)
            have hP : va_P D vwCl (mw cI cZ h0 mq (upd mi 5 x_22) ma_14) H := mwP_5 hP
            have hD : va_D A (mw cI cZ h0 mq (upd mi 5 x_22) ma_14) := mwD_5 hD
            generalize hmi_23 : upd mi 5 x_22 = mi_23 at hP hD
            have hI : MB mi_23 ma_14 := by rw [← hmi_23]; exact MBi_free hI
            have hFI : ∀ k, k ∉ ([26, 30, 28, 27, 6, 5] : List Nat) → mi_23 k = mi0 k := fun k hk => by rw [← hmi_23]; exact (if_neg (fun e => hk (by rw [e]; decide))).trans (hFI k hk)
            have hE := bs_at hmi_23 hE
            refine lv_aload_n hx hb dX11_puts_158 rfl (lv_at hl 0 rfl) ?_
            refine lv_dup hx hb dX11_puts_159 rfl ?_
            refine va_get (D := D) (ci := 11) (v := .int (mi_23 6)) (C := RX11) (T := TX11) (N := 74) hx hb ha inlX11 hown hK hP 0 mw_at0 rfl 6 (by decide) (ha _ kf_X11_230) (fun _ h9 => h9) rfl dX11_puts_160 ?_
            refine lv_topi (fun x_24 ex_24 => ?_)
            have hE := bd_at ex_24 hE
            have u_x_24 := congrArg Int32.toInt ex_24
            have q_x_24 : x_24.toInt = x_15.toInt := congrArg Int32.toInt (ex_24.trans (((congrFun hmi_23 6).symm).trans (ex_15.symm)))
            have r_x_24 := MB_linked hI
            rw [← ex_24] at r_x_24
            refine lv_iconst (v := 1) hx hb dX11_puts_163 (by decide) ?_
            refine lv_iadd hx hb dX11_puts_164 ?_
            refine lv_topi (fun x_25 ex_25 => ?_)
            have hE := bd_at ex_25 hE
            try have t_x_25 := ti_add ex_25 (by omega) (by omega)
            refine va_put (D := D) (ci := 11) (v := .int x_25) (ty := .int) (C := RX11) (T := TX11) (N := 74) hx hb ha inlX11 tyX11 tyX11_ok nmX11 hown hK hP hD hS 0 mw_at0 rfl 6 (by decide) (ha _ kf_X11_230) (fun _ h9 => h9) rfl (by decide +kernel) rfl rfl (Nat.le_of_ble_eq_true rfl) dX11_puts_165 (fun H locs hP hD hS => ?_)
            have hP : va_P D vwCl (mw cI cZ h0 mq (upd mi_23 6 x_25) ma_14) H := mwP_6 hP
            have hD : va_D A (mw cI cZ h0 mq (upd mi_23 6 x_25) ma_14) := mwD_6 hD
            generalize hmi_26 : upd mi_23 6 x_25 = mi_26 at hP hD
            have hI : MB mi_26 ma_14 := by rw [← hmi_26]; exact MBi_linked hI (by omega) (by omega) (fun q => by rw [hFI 32 (by decide), hmi0] at q; omega)
            have hFI : ∀ k, k ∉ ([26, 30, 28, 27, 6, 5] : List Nat) → mi_26 k = mi0 k := fun k hk => by rw [← hmi_26]; exact (if_neg (fun e => hk (by rw [e]; decide))).trans (hFI k hk)
            have hE := bs_at hmi_26 hE
            rw [hQP]
            exact W.vret hx hb hr (fun t ht hW => ⟨⟨(), rfl, trivial, ⟨mi_26, ma_14, ⟨⟨hI, fun k hk => (hFI k hk).trans (by rw [hmi0]), fun k hk => (hFA k hk).trans (by rw [hma0])⟩, by rw [← hRES, hE], by rw [← hRES, hE]⟩, by rw [ht]; exact hP, va_K.moved hW.alike hK, hD⟩⟩, hS.F ht⟩) hS.2.2 dX11_puts_168
        · have t_c_5 := Int32.lt_iff_toInt_lt.mp (Int32.not_le.mp c_5)
          have hE := hE.trans (if_neg c_5)
          refine lv_aload_n hx hb dX11_puts_97 rfl (lv_at hl 0 rfl) ?_
          refine lv_dup hx hb dX11_puts_98 rfl ?_
          refine va_get (D := D) (ci := 11) (v := .int (mi 27)) (C := RX11) (T := TX11) (N := 74) hx hb ha inlX11 hown hK hP 0 mw_at0 rfl 27 (by decide) (ha _ kf_X11_329) (fun _ h9 => h9) rfl dX11_puts_99 ?_
          refine lv_topi (fun x_27 ex_27 => ?_)
          have hE := bd_at ex_27 hE
          have u_x_27 := congrArg Int32.toInt ex_27
          refine lv_iconst (v := 1) hx hb dX11_puts_102 (by decide) ?_
          refine lv_iadd hx hb dX11_puts_103 ?_
          refine lv_topi (fun x_28 ex_28 => ?_)
          have hE := bd_at ex_28 hE
          try have t_x_28 := ti_add ex_28 (by omega) (by omega)
          refine va_put (D := D) (ci := 11) (v := .int x_28) (ty := .int) (C := RX11) (T := TX11) (N := 74) hx hb ha inlX11 tyX11 tyX11_ok nmX11 hown hK hP hD hS 0 mw_at0 rfl 27 (by decide) (ha _ kf_X11_329) (fun _ h9 => h9) rfl (by decide +kernel) rfl rfl (Nat.le_of_ble_eq_true rfl) dX11_puts_104 (fun H locs hP hD hS => ?_)
          have hP : va_P D vwCl (mw cI cZ h0 mq (upd mi 27 x_28) ma) H := mwP_27 hP
          have hD : va_D A (mw cI cZ h0 mq (upd mi 27 x_28) ma) := mwD_27 hD
          generalize hmi_29 : upd mi 27 x_28 = mi_29 at hP hD
          have hI : MB mi_29 ma := by rw [← hmi_29]; exact MBi_dropped hI
          have hFI : ∀ k, k ∉ ([26, 30, 28, 27, 6, 5] : List Nat) → mi_29 k = mi0 k := fun k hk => by rw [← hmi_29]; exact (if_neg (fun e => hk (by rw [e]; decide))).trans (hFI k hk)
          have hE := bs_at hmi_29 hE
          rw [hQP]
          exact W.vret hx hb hr (fun t ht hW => ⟨⟨(), rfl, trivial, ⟨mi_29, ma, ⟨⟨hI, fun k hk => (hFI k hk).trans (by rw [hmi0]), fun k hk => (hFA k hk).trans (by rw [hma0])⟩, by rw [← hRES, hE], by rw [← hRES, hE]⟩, by rw [ht]; exact hP, va_K.moved hW.alike hK, hD⟩⟩, hS.F ht⟩) hS.2.2 dX11_puts_107
      · have t_c_2 := Int32.lt_iff_toInt_lt.mp (Int32.not_le.mp c_2)
        have hE := hE.trans (if_neg c_2)
        refine lv_aload_n hx hb dX11_puts_28 rfl (lv_at hl 0 rfl) ?_
        refine va_get (D := D) (ci := 11) (v := .ref (mq 31)) (C := RX11) (T := TX11) (N := 74) hx hb ha inlX11 hown hK hP 0 mw_at0 rfl 31 (by decide) (ha _ kf_X11_64) (fun _ h9 => h9) rfl dX11_puts_29 ?_
        refine lv_iload hx hb dX11_puts_32 (lv_at hl 5 rfl) ?_
        have hin_30 : vp_in i5 64 := vpi_of (by omega) (by omega)
        refine va_iald hx hb hK hP 14 0 mw_at31 rfl hin_30 dX11_puts_34 ?_
        refine lv_topi (fun x_31 ex_31 => ?_)
        have hE := bd_at ex_31 hE
        have u_x_31 := congrArg Int32.toInt ex_31
        refine lv_iload hx hb dX11_puts_35 (lv_at hl 4 rfl) ?_
        refine lv_icmp_eq (tgt := 43) hx hb dX11_puts_37 (by decide) (fun c_32 => ?_) (fun c_32 => ?_)
        · have t_c_32 := congrArg Int32.toInt c_32
          have hE := hE.trans (if_pos c_32)
          refine lv_aload_n hx hb dX11_puts_43 rfl (lv_at hl 0 rfl) ?_
          refine lv_dup hx hb dX11_puts_44 rfl ?_
          refine va_get (D := D) (ci := 11) (v := .int (mi 30)) (C := RX11) (T := TX11) (N := 74) hx hb ha inlX11 hown hK hP 0 mw_at0 rfl 30 (by decide) (ha _ kf_X11_204) (fun _ h9 => h9) rfl dX11_puts_45 ?_
          refine lv_topi (fun x_33 ex_33 => ?_)
          have hE := bd_at ex_33 hE
          have u_x_33 := congrArg Int32.toInt ex_33
          have r_x_33 := MB_told hI
          rw [← ex_33] at r_x_33
          refine lv_iconst (v := 1) hx hb dX11_puts_48 (by decide) ?_
          refine lv_isub hx hb dX11_puts_49 ?_
          refine lv_topi (fun x_34 ex_34 => ?_)
          have hE := bd_at ex_34 hE
          try have t_x_34 := ti_sub ex_34 (by omega) (by omega)
          refine va_put (D := D) (ci := 11) (v := .int x_34) (ty := .int) (C := RX11) (T := TX11) (N := 74) hx hb ha inlX11 tyX11 tyX11_ok nmX11 hown hK hP hD hS 0 mw_at0 rfl 30 (by decide) (ha _ kf_X11_204) (fun _ h9 => h9) rfl (by decide +kernel) rfl rfl (Nat.le_of_ble_eq_true rfl) dX11_puts_50 (fun H locs hP hD hS => ?_)
          have hP : va_P D vwCl (mw cI cZ h0 mq (upd mi 30 x_34) ma) H := mwP_30 hP
          have hD : va_D A (mw cI cZ h0 mq (upd mi 30 x_34) ma) := mwD_30 hD
          generalize hmi_35 : upd mi 30 x_34 = mi_35 at hP hD
          have hI : MB mi_35 ma := by rw [← hmi_35]; exact MBi_told hI (by omega) (by omega)
          have hFI : ∀ k, k ∉ ([26, 30, 28, 27, 6, 5] : List Nat) → mi_35 k = mi0 k := fun k hk => by rw [← hmi_35]; exact (if_neg (fun e => hk (by rw [e]; decide))).trans (hFI k hk)
          have hE := bs_at hmi_35 hE
          refine lv_aload_n hx hb dX11_puts_53 rfl (lv_at hl 0 rfl) ?_
          refine va_get (D := D) (ci := 11) (v := .ref (mq 31)) (C := RX11) (T := TX11) (N := 74) hx hb ha inlX11 hown hK hP 0 mw_at0 rfl 31 (by decide) (ha _ kf_X11_64) (fun _ h9 => h9) rfl dX11_puts_54 ?_
          refine lv_iload hx hb dX11_puts_57 (lv_at hl 5 rfl) ?_
          refine lv_aload_n hx hb dX11_puts_59 rfl (lv_at hl 0 rfl) ?_
          refine va_get (D := D) (ci := 11) (v := .ref (mq 31)) (C := RX11) (T := TX11) (N := 74) hx hb ha inlX11 hown hK hP 0 mw_at0 rfl 31 (by decide) (ha _ kf_X11_64) (fun _ h9 => h9) rfl dX11_puts_60 ?_
          refine lv_aload_n hx hb dX11_puts_63 rfl (lv_at hl 0 rfl) ?_
          refine va_get (D := D) (ci := 11) (v := .int (mi_35 30)) (C := RX11) (T := TX11) (N := 74) hx hb ha inlX11 hown hK hP 0 mw_at0 rfl 30 (by decide) (ha _ kf_X11_204) (fun _ h9 => h9) rfl dX11_puts_64 ?_
          refine lv_topi (fun x_36 ex_36 => ?_)
          have hE := bd_at ex_36 hE
          have u_x_36 := congrArg Int32.toInt ex_36
          have q_x_36 : x_36.toInt = x_34.toInt := congrArg Int32.toInt (ex_36.trans ((congrFun hmi_35 30).symm))
          have r_x_36 := MB_told hI
          rw [← ex_36] at r_x_36
          have hin_37 : vp_in x_36 64 := vpi_of (by omega) (by omega)
          refine va_iald hx hb hK hP 14 0 mw_at31 rfl hin_37 dX11_puts_67 ?_
          refine lv_topi (fun x_38 ex_38 => ?_)
          have hE := bd_at ex_38 hE
          have u_x_38 := congrArg Int32.toInt ex_38
          have hin_39 : vp_in i5 64 := vpi_of (by omega) (by omega)
          refine va_iast hx hb hK hP hD hS 14 0 mw_at31 rfl hin_39 dX11_puts_68 (fun H locs hP hD hS => ?_)
          have hP : va_P D vwCl (mw cI cZ h0 mq mi_35 (va_up ma 31 (upd (ma 31) i5.toNatClampNeg x_38))) H := mwP_31 hP
          have hD : va_D A (mw cI cZ h0 mq mi_35 (va_up ma 31 (upd (ma 31) i5.toNatClampNeg x_38))) := mwD_31 hD
          generalize hma_40 : va_up ma 31 (upd (ma 31) i5.toNatClampNeg x_38) = ma_40 at hP hD
          have hI : MB mi_35 ma_40 := by rw [← hma_40]; exact MBa_lost hI
          have hFA : ∀ k, k ∉ ([31, 7, 8, 9] : List Nat) → ma_40 k = ma0 k := fun k hk => by rw [← hma_40]; exact (va_up_ne _ _ (fun e => hk (by rw [e]; decide))).trans (hFA k hk)
          have hE := bs_at hma_40 hE
          refine lv_aload_n hx hb dX11_puts_69 rfl (lv_at hl 0 rfl) ?_
          refine lv_dup hx hb dX11_puts_70 rfl ?_
          refine va_get (D := D) (ci := 11) (v := .int (mi_35 28)) (C := RX11) (T := TX11) (N := 74) hx hb ha inlX11 hown hK hP 0 mw_at0 rfl 28 (by decide) (ha _ kf_X11_326) (fun _ h9 => h9) rfl dX11_puts_71 ?_
          refine lv_topi (fun x_41 ex_41 => ?_)
          have hE := bd_at ex_41 hE
          have u_x_41 := congrArg Int32.toInt ex_41
          refine lv_iconst (v := 1) hx hb dX11_puts_74 (by decide) ?_
          refine lv_iadd hx hb dX11_puts_75 ?_
          refine lv_topi (fun x_42 ex_42 => ?_)
          have hE := bd_at ex_42 hE
          try have t_x_42 := ti_add ex_42 (by omega) (by omega)
          refine va_put (D := D) (ci := 11) (v := .int x_42) (ty := .int) (C := RX11) (T := TX11) (N := 74) hx hb ha inlX11 tyX11 tyX11_ok nmX11 hown hK hP hD hS 0 mw_at0 rfl 28 (by decide) (ha _ kf_X11_326) (fun _ h9 => h9) rfl (by decide +kernel) rfl rfl (Nat.le_of_ble_eq_true rfl) dX11_puts_76 (fun H locs hP hD hS => ?_)
          have hP : va_P D vwCl (mw cI cZ h0 mq (upd mi_35 28 x_42) ma_40) H := mwP_28 hP
          have hD : va_D A (mw cI cZ h0 mq (upd mi_35 28 x_42) ma_40) := mwD_28 hD
          generalize hmi_43 : upd mi_35 28 x_42 = mi_43 at hP hD
          have hI : MB mi_43 ma_40 := by rw [← hmi_43]; exact MBi_gone hI
          have hFI : ∀ k, k ∉ ([26, 30, 28, 27, 6, 5] : List Nat) → mi_43 k = mi0 k := fun k hk => by rw [← hmi_43]; exact (if_neg (fun e => hk (by rw [e]; decide))).trans (hFI k hk)
          have hE := bs_at hmi_43 hE
          rw [hQP]
          exact W.vret hx hb hr (fun t ht hW => ⟨⟨(), rfl, trivial, ⟨mi_43, ma_40, ⟨⟨hI, fun k hk => (hFI k hk).trans (by rw [hmi0]), fun k hk => (hFA k hk).trans (by rw [hma0])⟩, by rw [← hRES, hE], by rw [← hRES, hE]⟩, by rw [ht]; exact hP, va_K.moved hW.alike hK, hD⟩⟩, hS.F ht⟩) hS.2.2 dX11_puts_79
        · have t_c_32 := mt Int32.toInt_inj.mp c_32
          have hE := hE.trans (if_neg c_32)
          refine lv_goto (tgt := 80) hx hb dX11_puts_40 (by decide) ?_
          obtain ⟨x_44, ex_44⟩ : ∃ y : Int32, y = i5 + 1 := ⟨_, rfl⟩
          have hE := bd_at ex_44 hE
          refine lv_iinc (v := x_44) (lv' := [(5, .int x_44), (0, .ref h0), (1, .int f), (2, .int g), (3, .int pb), (4, .int i4)]) hx hb dX11_puts_80 hl (k := 5) rfl (by rw [ex_44]; rfl) (by decide) rfl (fun ls hl => ?_)
          try have t_x_44 := ti_add ex_44 (by omega) (by omega)
          refine lv_goto (tgt := 19) hx hb dX11_puts_83 (by decide) ?_
          exact ih_19 mi ma i4 x_44 _ _ hP hD hS hI hFI hFA hE (by omega) _ (lv_sub hl [1, 2, 3, 4, 5, 0] rfl) (by omega)
  -- from the entry
  rw [hQP] at J_19
  have hE := hRES
  unfold x_puts at hE
  refine lv_aload_n hx hb dX11_puts_0 rfl (lv_at hl 0 rfl) ?_
  refine va_get (D := D) (ci := 11) (v := .int (mi 26)) (C := RX11) (T := TX11) (N := 74) hx hb ha inlX11 hown hK hP 0 mw_at0 rfl 26 (by decide) (ha _ kf_X11_201) (fun _ h9 => h9) rfl dX11_puts_1 ?_
  refine lv_topi (fun x_45 ex_45 => ?_)
  have hE := bd_at ex_45 hE
  have u_x_45 := congrArg Int32.toInt ex_45
  refine lv_istore (lv' := [(4, .int x_45), (0, .ref h0), (1, .int f), (2, .int g), (3, .int pb)]) hx hb dX11_puts_4 hl (by decide) rfl (fun ls hl => ?_)
  refine lv_aload_n hx hb dX11_puts_6 rfl (lv_at hl 1 rfl) ?_
  refine lv_dup hx hb dX11_puts_7 rfl ?_
  refine va_get (D := D) (ci := 11) (v := .int (mi 26)) (C := RX11) (T := TX11) (N := 74) hx hb ha inlX11 hown hK hP 0 mw_at0 rfl 26 (by decide) (ha _ kf_X11_201) (fun _ h9 => h9) rfl dX11_puts_8 ?_
  refine lv_topi (fun x_46 ex_46 => ?_)
  have hE := bd_at ex_46 hE
  have u_x_46 := congrArg Int32.toInt ex_46
  refine lv_iconst (v := 1) hx hb dX11_puts_11 (by decide) ?_
  refine lv_iadd hx hb dX11_puts_12 ?_
  refine lv_topi (fun x_47 ex_47 => ?_)
  have hE := bd_at ex_47 hE
  refine va_put (D := D) (ci := 11) (v := .int x_47) (ty := .int) (C := RX11) (T := TX11) (N := 74) hx hb ha inlX11 tyX11 tyX11_ok nmX11 hown hK hP hD hS 0 mw_at0 rfl 26 (by decide) (ha _ kf_X11_201) (fun _ h9 => h9) rfl (by decide +kernel) rfl rfl (Nat.le_of_ble_eq_true rfl) dX11_puts_13 (fun H locs hP hD hS => ?_)
  have hP : va_P D vwCl (mw cI cZ h0 mq (upd mi 26 x_47) ma) H := mwP_26 hP
  have hD : va_D A (mw cI cZ h0 mq (upd mi 26 x_47) ma) := mwD_26 hD
  generalize hmi_48 : upd mi 26 x_47 = mi_48 at hP hD
  have hI : MB mi_48 ma := by rw [← hmi_48]; exact MBi_sent hI
  have hFI : ∀ k, k ∉ ([26, 30, 28, 27, 6, 5] : List Nat) → mi_48 k = mi0 k := fun k hk => by rw [← hmi_48]; exact (if_neg (fun e => hk (by rw [e]; decide))).trans (hFI k hk)
  have hE := bs_at hmi_48 hE
  refine lv_iconst (v := 0) hx hb dX11_puts_16 (by decide) ?_
  refine lv_istore (lv' := [(5, .int 0), (4, .int x_45), (0, .ref h0), (1, .int f), (2, .int g), (3, .int pb)]) hx hb dX11_puts_17 hl (by decide) rfl (fun ls hl => ?_)
  exact J_19 65 mi_48 ma x_45 (0 : Int32) _ _ hP hD hS hI hFI hFA hE (by omega) _ (lv_sub hl [2, 3, 4, 5, 1, 0] rfl) (by omega)

set_option maxRecDepth 100000 in
def x_sendsOne (f : Int32) (g : Int32) (mi : Nat → Int32) (ma : Nat → Nat → Int32) : XT := bc (x_puts f g (0 : Int32) mi ma) (fun m1 a2 _ => bd (a2 46 f.toNatClampNeg) (fun v4 => (if v4 ≤ g then bd (g + (1 : Int32)) (fun v5 => bd (va_up a2 46 (upd (a2 46) f.toNatClampNeg v5)) (fun a6 => bd (a6 69 f.toNatClampNeg) (fun v7 => (if v7 = ((-1) : Int32) then bd (va_up a6 69 (upd (a6 69) f.toNatClampNeg g)) (fun a13 => bd (m1 4) (fun v14 => bd (va_up a13 70 (upd (a13 70) f.toNatClampNeg v14)) (fun a15 => bd (a15 61 f.toNatClampNeg) (fun v16 => (if v16 = ((-1) : Int32) then bd (m1 4) (fun v17 => bd (a15 49 f.toNatClampNeg) (fun v18 => bd (v17 + v18) (fun v19 => bd (va_up a15 61 (upd (a15 61) f.toNatClampNeg v19)) (fun a20 => (m1, a20, 0))))) else (m1, a15, 0)))))) else bd (a6 61 f.toNatClampNeg) (fun v8 => (if v8 = ((-1) : Int32) then bd (m1 4) (fun v9 => bd (a6 49 f.toNatClampNeg) (fun v10 => bd (v9 + v10) (fun v11 => bd (va_up a6 61 (upd (a6 61) f.toNatClampNeg v11)) (fun a12 => (m1, a12, 0))))) else (m1, a6, 0))))))) else bd (a2 59 f.toNatClampNeg) (fun v21 => bd (v21 + (1 : Int32)) (fun v22 => bd (va_up a2 59 (upd (a2 59) f.toNatClampNeg v22)) (fun a23 => bd (a23 69 f.toNatClampNeg) (fun v24 => (if v24 = g then bd (va_up a23 69 (upd (a23 69) f.toNatClampNeg ((-1) : Int32))) (fun a30 => bd (a30 61 f.toNatClampNeg) (fun v31 => (if v31 = ((-1) : Int32) then bd (m1 4) (fun v32 => bd (a30 49 f.toNatClampNeg) (fun v33 => bd (v32 + v33) (fun v34 => bd (va_up a30 61 (upd (a30 61) f.toNatClampNeg v34)) (fun a35 => (m1, a35, 0))))) else (m1, a30, 0)))) else bd (a23 61 f.toNatClampNeg) (fun v25 => (if v25 = ((-1) : Int32) then bd (m1 4) (fun v26 => bd (a23 49 f.toNatClampNeg) (fun v27 => bd (v26 + v27) (fun v28 => bd (va_up a23 61 (upd (a23 61) f.toNatClampNeg v28)) (fun a29 => (m1, a29, 0))))) else (m1, a23, 0)))))))))))
set_option maxHeartbeats 4000000 in
set_option maxRecDepth 100000 in
theorem m_sendsOne (l : Launch) (D : va_G) (cI cJ cZ cO : ClassId) (sz : Nat) (h0 : Nat) (mq : Nat → Nat) (mi : Nat → Int32) (ma : Nat → Nat → Int32) (ph : Nat) (cl : Int) (f g : Int32) (hI : MB mi ma) (hf0 : 0 ≤ f.toInt) (hf4 : f.toInt < 4) (hff : f.toInt < (mi 32).toInt) (hg0 : 0 ≤ g.toInt) (hg1 : g.toInt ≤ 1000000) (hg2 : g.toInt + 1 ≤ (ma 44 f.toNatClampNeg).toInt + 200) : Met l yX11_sendsOne (wa yX11_sendsOne cX11_sendsOne 3 none) ({ frames := 1, cells := 0, slots := 0, locals := 25 }) (va_Pc [.ref h0, .int f, .int g] (pw_s D cI cJ cZ cO sz (mw cI cZ h0 mq mi ma))) (va_Qv (fun (_ : Unit) => True) (fun (_ : Unit) (t : State) => ∃ (mi2 : Nat → Int32) (ma2 : Nat → Nat → Int32), ((MB mi2 ma2 ∧ (∀ k, k ∉ ([26, 30, 28, 27, 6, 5] : List Nat) → mi2 k = mi k) ∧ (∀ k, k ∉ ([31, 7, 8, 9, 59, 69, 46, 70, 61] : List Nat) → ma2 k = ma k)) ∧ mi2 = (x_sendsOne f g mi ma).1 ∧ ma2 = (x_sendsOne f g mi ma).2.1) ∧ pw_t D cI cJ cZ cO (va_A (mw cI cZ h0 mq mi ma) sz) (mw cI cZ h0 mq mi2 ma2) t) (va_A (mw cI cZ h0 mq mi ma) sz)) 0 0 (va_A (mw cI cZ h0 mq mi ma) sz) := by
  refine Met.ofW (cc := cX11_sendsOne) (maxL := 3) (ret := none) (by decide) rfl ?_
  intro p e s m args below meth c s₁ B hml hv
  obtain ⟨rfl, hsz, hP, hK, hD0, hN⟩ := hv
  have hx := B.exec
  have hb := B.bytes
  have hr := B.returns
  have hts := atoms_spec (ws := (wa yX11_sendsOne cX11_sendsOne 3 none)) B.pre
  have ha : ∀ w ∈ wsL_law, w.before _ s = true := fun w h => hts w (List.mem_cons_of_mem _ h)
  have hown : s.vm.findClass RX11 = some m.cls := findClass_of_methodNamed B.named
  have hlocks := B.notSynchronized
  subst hsz
  have hD := hD0.self (sz := s.heap.size)
  generalize hAe : va_A (mw cI cZ h0 mq mi ma) s.heap.size = A at hD ⊢
  have hA : ∀ q : Nat, s.heap.size ≤ q → A q := fun q h => by rw [← hAe]; exact Or.inr h
  have hS : va_S A s.heap s.heap [] := va_S.rf
  have hP : va_P D vwCl (mw cI cZ h0 mq mi ma) s.heap := hP
  have hl := lv_entry ([.ref h0, .int f, .int g]) (n := 3) (Nat.le_of_ble_eq_true rfl)
  rw [lg_entry_eq]
  generalize (lg_sl ([.ref h0, .int f, .int g]) ++ List.replicate (3 - (lg_sl ([.ref h0, .int f, .int g])).length) Slot.unset).toArray = ls at hl ⊢
  have hl : lv_has ls 3 [(0, .ref h0), (1, .int f), (2, .int g)] := hl
  have kc_m1 := tk_m1
  have kc_0 := tk_0
  have kc_1 := tk_1
  obtain ⟨mi0, hmi0⟩ : ∃ y, y = mi := ⟨_, rfl⟩
  obtain ⟨ma0, hma0⟩ : ∃ y, y = ma := ⟨_, rfl⟩
  have hFI : ∀ k, k ∉ ([26, 30, 28, 27, 6, 5] : List Nat) → mi k = mi0 k := fun k _ => by rw [hmi0]
  have hFA : ∀ k, k ∉ ([31, 7, 8, 9, 59, 69, 46, 70, 61] : List Nat) → ma k = ma0 k := fun k _ => by rw [hma0]
  obtain ⟨QP, hQP⟩ : ∃ y : State → Prop, y = (MQ below (va_Qv (fun (_ : Unit) => True) (fun (_ : Unit) (t : State) => ∃ (mi2 : Nat → Int32) (ma2 : Nat → Nat → Int32), ((MB mi2 ma2 ∧ (∀ k, k ∉ ([26, 30, 28, 27, 6, 5] : List Nat) → mi2 k = mi k) ∧ (∀ k, k ∉ ([31, 7, 8, 9, 59, 69, 46, 70, 61] : List Nat) → ma2 k = ma k)) ∧ mi2 = (x_sendsOne f g mi ma).1 ∧ ma2 = (x_sendsOne f g mi ma).2.1) ∧ pw_t D cI cJ cZ cO A (mw cI cZ h0 mq mi2 ma2) t) A) #[(.ref h0 : Value), (.int f : Value), (.int g : Value)] s 0 0 A) := ⟨_, rfl⟩
  obtain ⟨RES, hRES⟩ : ∃ y, y = (x_sendsOne f g mi ma) := ⟨_, rfl⟩
  have hfN : f.toNatClampNeg < 4 := in_lt (vpi_of (n := 4) hf0 (by omega))
  have hle := MB_le2n hI f.toNatClampNeg hfN
  have hlh := MB_le2h hI f.toNatClampNeg hfN
  -- from the entry
  have hE := hRES
  unfold x_sendsOne at hE
  refine lv_aload_n hx hb dX11_sendsOne_0 rfl (lv_at hl 0 rfl) ?_
  refine lv_iload_n hx hb dX11_sendsOne_1 rfl (lv_at hl 1 rfl) ?_
  refine lv_iload_n hx hb dX11_sendsOne_2 rfl (lv_at hl 2 rfl) ?_
  refine lv_iconst (v := 0) hx hb dX11_sendsOne_3 (by decide) ?_
  have hFc := va_freeW hD hS hA
  refine va_callv (va_runV (As := [.int f, .int g, .int 0]) (rest := []) ⟨hx, hb, hml, hown, ha⟩ (m_puts l D cI cJ cZ cO _ h0 mq mi ma ph cl f g 0 hI hf0 hf4 (by rw [hFI 32 (by decide), hmi0]; omega) hg0 hg1) (cwV 3 ha (gaV kl_X11_323 km_X11_puts ks_X11_puts kz_X11 kd_X11_puts) rfl rfl rfl (by decide +kernel) ⟨Nat.le_of_ble_eq_true rfl, Nat.le_of_ble_eq_true rfl⟩) ⟨pw_blind, va_recv hK hP (ci := 11) (q0 := 0) rfl rfl, fun U hU hW => ⟨rfl, pw_start hU hW hP hK hD hN⟩⟩ rfl rfl hl.1 rfl (lv_room (Nat.le_of_ble_eq_true rfl)) dX11_sendsOne_4 ⟨Nat.le_of_ble_eq_true rfl, Nat.le_of_ble_eq_true rfl⟩) hS (fun q _ h => hFc q h) hFc (fun u t H1 locs ht hvm hw hB hz1 hk1 hS => ?_)
  obtain ⟨mi_2, ma_3, ⟨hf_4, hX1, hX2⟩, hP, hK1, hD1⟩ := hB
  have hE := bc_atv hX1 hX2 hE
  rw [ht] at hP
  have hD := hD1.weaken (fun k q _ h => hFc q.1 h)
  clear hD1
  generalize H1 = H at hP hS ⊢
  refine W.widen (k := 0) (n := 0) (Nat.le_refl _) (Nat.le_refl _) ?_
  have hI := hf_4.1
  have hFI : ∀ k, k ∉ ([26, 30, 28, 27, 6, 5] : List Nat) → mi_2 k = mi0 k := fun k hk => (hf_4.2.1 k (fun h => hk (by revert h; exact sub_of (by decide) k))).trans (hFI k hk)
  have hFA : ∀ k, k ∉ ([31, 7, 8, 9, 59, 69, 46, 70, 61] : List Nat) → ma_3 k = ma0 k := fun k hk => (hf_4.2.2 k (fun h => hk (by revert h; exact sub_of (by decide) k))).trans (hFA k hk)
  refine lv_iload_n hx hb dX11_sendsOne_7 rfl (lv_at hl 2 rfl) ?_
  refine lv_aload_n hx hb dX11_sendsOne_8 rfl (lv_at hl 0 rfl) ?_
  refine va_get (D := D) (ci := 11) (v := .ref (mq 46)) (C := RX11) (T := TX11) (N := 74) hx hb ha inlX11 hown hK hP 0 mw_at0 rfl 46 (by decide) (ha _ kf_X11_106) (fun _ h9 => h9) rfl dX11_sendsOne_9 ?_
  refine lv_iload_n hx hb dX11_sendsOne_12 rfl (lv_at hl 1 rfl) ?_
  have hin_5 : vp_in f 4 := vpi_of (by omega) (by omega)
  refine va_iald hx hb hK hP 28 0 mw_at46 rfl hin_5 dX11_sendsOne_13 ?_
  refine lv_topi (fun x_6 ex_6 => ?_)
  have hE := bd_at ex_6 hE
  have u_x_6 := congrArg Int32.toInt ex_6
  have r_x_6 := rg_ld (MB_high hI) hin_5 ex_6
  refine lv_icmp_ge (tgt := 47) hx hb dX11_sendsOne_14 (by decide) (fun c_7 => ?_) (fun c_7 => ?_)
  · have t_c_7 := Int32.le_iff_toInt_le.mp c_7
    have hE := hE.trans (if_pos c_7)
    refine lv_aload_n hx hb dX11_sendsOne_47 rfl (lv_at hl 0 rfl) ?_
    refine va_get (D := D) (ci := 11) (v := .ref (mq 46)) (C := RX11) (T := TX11) (N := 74) hx hb ha inlX11 hown hK hP 0 mw_at0 rfl 46 (by decide) (ha _ kf_X11_106) (fun _ h9 => h9) rfl dX11_sendsOne_48 ?_
    refine lv_iload_n hx hb dX11_sendsOne_51 rfl (lv_at hl 1 rfl) ?_
    refine lv_iload_n hx hb dX11_sendsOne_52 rfl (lv_at hl 2 rfl) ?_
    refine lv_iconst (v := 1) hx hb dX11_sendsOne_53 (by decide) ?_
    refine lv_iadd hx hb dX11_sendsOne_54 ?_
    refine lv_topi (fun x_8 ex_8 => ?_)
    have hE := bd_at ex_8 hE
    try have t_x_8 := ti_add ex_8 (by omega) (by omega)
    have hin_9 : vp_in f 4 := vpi_of (by omega) (by omega)
    refine va_iast hx hb hK hP hD hS 28 0 mw_at46 rfl hin_9 dX11_sendsOne_55 (fun H locs hP hD hS => ?_)
    have hP : va_P D vwCl (mw cI cZ h0 mq mi_2 (va_up ma_3 46 (upd (ma_3 46) f.toNatClampNeg x_8))) H := mwP_46 hP
    have hD : va_D A (mw cI cZ h0 mq mi_2 (va_up ma_3 46 (upd (ma_3 46) f.toNatClampNeg x_8))) := mwD_46 hD
    generalize hma_10 : va_up ma_3 46 (upd (ma_3 46) f.toNatClampNeg x_8) = ma_10 at hP hD
    have hI : MB mi_2 ma_10 := by rw [← hma_10]; exact MBa_high hI (by omega) (by omega) (by rw [hFA 44 (by decide), hma0]; omega)
    have hFA : ∀ k, k ∉ ([31, 7, 8, 9, 59, 69, 46, 70, 61] : List Nat) → ma_10 k = ma0 k := fun k hk => by rw [← hma_10]; exact (va_up_ne _ _ (fun e => hk (by rw [e]; decide))).trans (hFA k hk)
    have hE := bs_at hma_10 hE
    refine lv_aload_n hx hb dX11_sendsOne_56 rfl (lv_at hl 0 rfl) ?_
    refine va_get (D := D) (ci := 11) (v := .ref (mq 69)) (C := RX11) (T := TX11) (N := 74) hx hb ha inlX11 hown hK hP 0 mw_at0 rfl 69 (by decide) (ha _ kf_X11_175) (fun _ h9 => h9) rfl dX11_sendsOne_57 ?_
    refine lv_iload_n hx hb dX11_sendsOne_60 rfl (lv_at hl 1 rfl) ?_
    have hin_11 : vp_in f 4 := vpi_of (by omega) (by omega)
    refine va_iald hx hb hK hP 51 0 mw_at69 rfl hin_11 dX11_sendsOne_61 ?_
    refine lv_topi (fun x_12 ex_12 => ?_)
    have hE := bd_at ex_12 hE
    have u_x_12 := congrArg Int32.toInt ex_12
    refine lv_iconst (v := (-1)) hx hb dX11_sendsOne_62 (by decide) ?_
    refine lv_icmp_ne (tgt := 83) hx hb dX11_sendsOne_63 (by decide) (fun c_13 => ?_) (fun c_13 => ?_)
    · have t_c_13 := mt Int32.toInt_inj.mp c_13
      have hE := hE.trans (if_neg c_13)
      refine lv_aload_n hx hb dX11_sendsOne_83 rfl (lv_at hl 0 rfl) ?_
      refine va_get (D := D) (ci := 11) (v := .ref (mq 61)) (C := RX11) (T := TX11) (N := 74) hx hb ha inlX11 hown hK hP 0 mw_at0 rfl 61 (by decide) (ha _ kf_X11_151) (fun _ h9 => h9) rfl dX11_sendsOne_84 ?_
      refine lv_iload_n hx hb dX11_sendsOne_87 rfl (lv_at hl 1 rfl) ?_
      have hin_14 : vp_in f 4 := vpi_of (by omega) (by omega)
      refine va_iald hx hb hK hP 43 0 mw_at61 rfl hin_14 dX11_sendsOne_88 ?_
      refine lv_topi (fun x_15 ex_15 => ?_)
      have hE := bd_at ex_15 hE
      have u_x_15 := congrArg Int32.toInt ex_15
      refine lv_iconst (v := (-1)) hx hb dX11_sendsOne_89 (by decide) ?_
      refine lv_icmp_ne (tgt := 110) hx hb dX11_sendsOne_90 (by decide) (fun c_16 => ?_) (fun c_16 => ?_)
      · have t_c_16 := mt Int32.toInt_inj.mp c_16
        have hE := hE.trans (if_neg c_16)
        exact W.vret hx hb hr (fun t ht hW => ⟨⟨(), rfl, trivial, ⟨mi_2, ma_10, ⟨⟨hI, fun k hk => (hFI k hk).trans (by rw [hmi0]), fun k hk => (hFA k hk).trans (by rw [hma0])⟩, by rw [← hRES, hE], by rw [← hRES, hE]⟩, by rw [ht]; exact hP, va_K.moved hW.alike hK, hD⟩⟩, hS.F ht⟩) hS.2.2 dX11_sendsOne_110
      · have t_c_16 := congrArg Int32.toInt c_16
        have hE := hE.trans (if_pos c_16)
        refine lv_aload_n hx hb dX11_sendsOne_93 rfl (lv_at hl 0 rfl) ?_
        refine va_get (D := D) (ci := 11) (v := .ref (mq 61)) (C := RX11) (T := TX11) (N := 74) hx hb ha inlX11 hown hK hP 0 mw_at0 rfl 61 (by decide) (ha _ kf_X11_151) (fun _ h9 => h9) rfl dX11_sendsOne_94 ?_
        refine lv_iload_n hx hb dX11_sendsOne_97 rfl (lv_at hl 1 rfl) ?_
        refine lv_aload_n hx hb dX11_sendsOne_98 rfl (lv_at hl 0 rfl) ?_
        refine va_get (D := D) (ci := 11) (v := .int (mi_2 4)) (C := RX11) (T := TX11) (N := 74) hx hb ha inlX11 hown hK hP 0 mw_at0 rfl 4 (by decide) (ha _ kf_X11_207) (fun _ h9 => h9) rfl dX11_sendsOne_99 ?_
        refine lv_topi (fun x_17 ex_17 => ?_)
        have hE := bd_at ex_17 hE
        have u_x_17 := congrArg Int32.toInt ex_17
        have r_x_17 := MB_tick hI
        rw [← ex_17] at r_x_17
        refine lv_aload_n hx hb dX11_sendsOne_102 rfl (lv_at hl 0 rfl) ?_
        refine va_get (D := D) (ci := 11) (v := .ref (mq 49)) (C := RX11) (T := TX11) (N := 74) hx hb ha inlX11 hown hK hP 0 mw_at0 rfl 49 (by decide) (ha _ kf_X11_115) (fun _ h9 => h9) rfl dX11_sendsOne_103 ?_
        refine lv_iload_n hx hb dX11_sendsOne_106 rfl (lv_at hl 1 rfl) ?_
        have hin_18 : vp_in f 4 := vpi_of (by omega) (by omega)
        refine va_iald hx hb hK hP 31 0 mw_at49 rfl hin_18 dX11_sendsOne_107 ?_
        refine lv_topi (fun x_19 ex_19 => ?_)
        have hE := bd_at ex_19 hE
        have u_x_19 := congrArg Int32.toInt ex_19
        refine lv_iadd hx hb dX11_sendsOne_108 ?_
        refine lv_topi (fun x_20 ex_20 => ?_)
        have hE := bd_at ex_20 hE
        have hin_21 : vp_in f 4 := vpi_of (by omega) (by omega)
        refine va_iast hx hb hK hP hD hS 43 0 mw_at61 rfl hin_21 dX11_sendsOne_109 (fun H locs hP hD hS => ?_)
        have hP : va_P D vwCl (mw cI cZ h0 mq mi_2 (va_up ma_10 61 (upd (ma_10 61) f.toNatClampNeg x_20))) H := mwP_61 hP
        have hD : va_D A (mw cI cZ h0 mq mi_2 (va_up ma_10 61 (upd (ma_10 61) f.toNatClampNeg x_20))) := mwD_61 hD
        generalize hma_22 : va_up ma_10 61 (upd (ma_10 61) f.toNatClampNeg x_20) = ma_22 at hP hD
        have hI : MB mi_2 ma_22 := by rw [← hma_22]; exact MBa_timer hI
        have hFA : ∀ k, k ∉ ([31, 7, 8, 9, 59, 69, 46, 70, 61] : List Nat) → ma_22 k = ma0 k := fun k hk => by rw [← hma_22]; exact (va_up_ne _ _ (fun e => hk (by rw [e]; decide))).trans (hFA k hk)
        have hE := bs_at hma_22 hE
        exact W.vret hx hb hr (fun t ht hW => ⟨⟨(), rfl, trivial, ⟨mi_2, ma_22, ⟨⟨hI, fun k hk => (hFI k hk).trans (by rw [hmi0]), fun k hk => (hFA k hk).trans (by rw [hma0])⟩, by rw [← hRES, hE], by rw [← hRES, hE]⟩, by rw [ht]; exact hP, va_K.moved hW.alike hK, hD⟩⟩, hS.F ht⟩) hS.2.2 dX11_sendsOne_110
    · have t_c_13 := congrArg Int32.toInt c_13
      have hE := hE.trans (if_pos c_13)
      refine lv_aload_n hx hb dX11_sendsOne_66 rfl (lv_at hl 0 rfl) ?_
      refine va_get (D := D) (ci := 11) (v := .ref (mq 69)) (C := RX11) (T := TX11) (N := 74) hx hb ha inlX11 hown hK hP 0 mw_at0 rfl 69 (by decide) (ha _ kf_X11_175) (fun _ h9 => h9) rfl dX11_sendsOne_67 ?_
      refine lv_iload_n hx hb dX11_sendsOne_70 rfl (lv_at hl 1 rfl) ?_
      refine lv_iload_n hx hb dX11_sendsOne_71 rfl (lv_at hl 2 rfl) ?_
      have hin_23 : vp_in f 4 := vpi_of (by omega) (by omega)
      refine va_iast hx hb hK hP hD hS 51 0 mw_at69 rfl hin_23 dX11_sendsOne_72 (fun H locs hP hD hS => ?_)
      have hP : va_P D vwCl (mw cI cZ h0 mq mi_2 (va_up ma_10 69 (upd (ma_10 69) f.toNatClampNeg g))) H := mwP_69 hP
      have hD : va_D A (mw cI cZ h0 mq mi_2 (va_up ma_10 69 (upd (ma_10 69) f.toNatClampNeg g))) := mwD_69 hD
      generalize hma_24 : va_up ma_10 69 (upd (ma_10 69) f.toNatClampNeg g) = ma_24 at hP hD
      have hI : MB mi_2 ma_24 := by rw [← hma_24]; exact MBa_measured hI
      have hFA : ∀ k, k ∉ ([31, 7, 8, 9, 59, 69, 46, 70, 61] : List Nat) → ma_24 k = ma0 k := fun k hk => by rw [← hma_24]; exact (va_up_ne _ _ (fun e => hk (by rw [e]; decide))).trans (hFA k hk)
      have hE := bs_at hma_24 hE
      refine lv_aload_n hx hb dX11_sendsOne_73 rfl (lv_at hl 0 rfl) ?_
      refine va_get (D := D) (ci := 11) (v := .ref (mq 70)) (C := RX11) (T := TX11) (N := 74) hx hb ha inlX11 hown hK hP 0 mw_at0 rfl 70 (by decide) (ha _ kf_X11_178) (fun _ h9 => h9) rfl dX11_sendsOne_74 ?_
      refine lv_iload_n hx hb dX11_sendsOne_77 rfl (lv_at hl 1 rfl) ?_
      refine lv_aload_n hx hb dX11_sendsOne_78 rfl (lv_at hl 0 rfl) ?_
      refine va_get (D := D) (ci := 11) (v := .int (mi_2 4)) (C := RX11) (T := TX11) (N := 74) hx hb ha inlX11 hown hK hP 0 mw_at0 rfl 4 (by decide) (ha _ kf_X11_207) (fun _ h9 => h9) rfl dX11_sendsOne_79 ?_
      refine lv_topi (fun x_25 ex_25 => ?_)
      have hE := bd_at ex_25 hE
      have u_x_25 := congrArg Int32.toInt ex_25
      have r_x_25 := MB_tick hI
      rw [← ex_25] at r_x_25
      have hin_26 : vp_in f 4 := vpi_of (by omega) (by omega)
      refine va_iast hx hb hK hP hD hS 52 0 mw_at70 rfl hin_26 dX11_sendsOne_82 (fun H locs hP hD hS => ?_)
      have hP : va_P D vwCl (mw cI cZ h0 mq mi_2 (va_up ma_24 70 (upd (ma_24 70) f.toNatClampNeg x_25))) H := mwP_70 hP
      have hD : va_D A (mw cI cZ h0 mq mi_2 (va_up ma_24 70 (upd (ma_24 70) f.toNatClampNeg x_25))) := mwD_70 hD
      generalize hma_27 : va_up ma_24 70 (upd (ma_24 70) f.toNatClampNeg x_25) = ma_27 at hP hD
      have hI : MB mi_2 ma_27 := by rw [← hma_27]; exact MBa_measuredAt hI
      have hFA : ∀ k, k ∉ ([31, 7, 8, 9, 59, 69, 46, 70, 61] : List Nat) → ma_27 k = ma0 k := fun k hk => by rw [← hma_27]; exact (va_up_ne _ _ (fun e => hk (by rw [e]; decide))).trans (hFA k hk)
      have hE := bs_at hma_27 hE
      refine lv_aload_n hx hb dX11_sendsOne_83 rfl (lv_at hl 0 rfl) ?_
      refine va_get (D := D) (ci := 11) (v := .ref (mq 61)) (C := RX11) (T := TX11) (N := 74) hx hb ha inlX11 hown hK hP 0 mw_at0 rfl 61 (by decide) (ha _ kf_X11_151) (fun _ h9 => h9) rfl dX11_sendsOne_84 ?_
      refine lv_iload_n hx hb dX11_sendsOne_87 rfl (lv_at hl 1 rfl) ?_
      have hin_28 : vp_in f 4 := vpi_of (by omega) (by omega)
      refine va_iald hx hb hK hP 43 0 mw_at61 rfl hin_28 dX11_sendsOne_88 ?_
      refine lv_topi (fun x_29 ex_29 => ?_)
      have hE := bd_at ex_29 hE
      have u_x_29 := congrArg Int32.toInt ex_29
      refine lv_iconst (v := (-1)) hx hb dX11_sendsOne_89 (by decide) ?_
      refine lv_icmp_ne (tgt := 110) hx hb dX11_sendsOne_90 (by decide) (fun c_30 => ?_) (fun c_30 => ?_)
      · have t_c_30 := mt Int32.toInt_inj.mp c_30
        have hE := hE.trans (if_neg c_30)
        exact W.vret hx hb hr (fun t ht hW => ⟨⟨(), rfl, trivial, ⟨mi_2, ma_27, ⟨⟨hI, fun k hk => (hFI k hk).trans (by rw [hmi0]), fun k hk => (hFA k hk).trans (by rw [hma0])⟩, by rw [← hRES, hE], by rw [← hRES, hE]⟩, by rw [ht]; exact hP, va_K.moved hW.alike hK, hD⟩⟩, hS.F ht⟩) hS.2.2 dX11_sendsOne_110
      · have t_c_30 := congrArg Int32.toInt c_30
        have hE := hE.trans (if_pos c_30)
        refine lv_aload_n hx hb dX11_sendsOne_93 rfl (lv_at hl 0 rfl) ?_
        refine va_get (D := D) (ci := 11) (v := .ref (mq 61)) (C := RX11) (T := TX11) (N := 74) hx hb ha inlX11 hown hK hP 0 mw_at0 rfl 61 (by decide) (ha _ kf_X11_151) (fun _ h9 => h9) rfl dX11_sendsOne_94 ?_
        refine lv_iload_n hx hb dX11_sendsOne_97 rfl (lv_at hl 1 rfl) ?_
        refine lv_aload_n hx hb dX11_sendsOne_98 rfl (lv_at hl 0 rfl) ?_
        refine va_get (D := D) (ci := 11) (v := .int (mi_2 4)) (C := RX11) (T := TX11) (N := 74) hx hb ha inlX11 hown hK hP 0 mw_at0 rfl 4 (by decide) (ha _ kf_X11_207) (fun _ h9 => h9) rfl dX11_sendsOne_99 ?_
        refine lv_topi (fun x_31 ex_31 => ?_)
        have hE := bd_at ex_31 hE
        have u_x_31 := congrArg Int32.toInt ex_31
        have r_x_31 := MB_tick hI
        rw [← ex_31] at r_x_31
        refine lv_aload_n hx hb dX11_sendsOne_102 rfl (lv_at hl 0 rfl) ?_
        refine va_get (D := D) (ci := 11) (v := .ref (mq 49)) (C := RX11) (T := TX11) (N := 74) hx hb ha inlX11 hown hK hP 0 mw_at0 rfl 49 (by decide) (ha _ kf_X11_115) (fun _ h9 => h9) rfl dX11_sendsOne_103 ?_
        refine lv_iload_n hx hb dX11_sendsOne_106 rfl (lv_at hl 1 rfl) ?_
        have hin_32 : vp_in f 4 := vpi_of (by omega) (by omega)
        refine va_iald hx hb hK hP 31 0 mw_at49 rfl hin_32 dX11_sendsOne_107 ?_
        refine lv_topi (fun x_33 ex_33 => ?_)
        have hE := bd_at ex_33 hE
        have u_x_33 := congrArg Int32.toInt ex_33
        refine lv_iadd hx hb dX11_sendsOne_108 ?_
        refine lv_topi (fun x_34 ex_34 => ?_)
        have hE := bd_at ex_34 hE
        have hin_35 : vp_in f 4 := vpi_of (by omega) (by omega)
        refine va_iast hx hb hK hP hD hS 43 0 mw_at61 rfl hin_35 dX11_sendsOne_109 (fun H locs hP hD hS => ?_)
        have hP : va_P D vwCl (mw cI cZ h0 mq mi_2 (va_up ma_27 61 (upd (ma_27 61) f.toNatClampNeg x_34))) H := mwP_61 hP
        have hD : va_D A (mw cI cZ h0 mq mi_2 (va_up ma_27 61 (upd (ma_27 61) f.toNatClampNeg x_34))) := mwD_61 hD
        generalize hma_36 : va_up ma_27 61 (upd (ma_27 61) f.toNatClampNeg x_34) = ma_36 at hP hD
        have hI : MB mi_2 ma_36 := by rw [← hma_36]; exact MBa_timer hI
        have hFA : ∀ k, k ∉ ([31, 7, 8, 9, 59, 69, 46, 70, 61] : List Nat) → ma_36 k = ma0 k := fun k hk => by rw [← hma_36]; exact (va_up_ne _ _ (fun e => hk (by rw [e]; decide))).trans (hFA k hk)
        have hE := bs_at hma_36 hE
        exact W.vret hx hb hr (fun t ht hW => ⟨⟨(), rfl, trivial, ⟨mi_2, ma_36, ⟨⟨hI, fun k hk => (hFI k hk).trans (by rw [hmi0]), fun k hk => (hFA k hk).trans (by rw [hma0])⟩, by rw [← hRES, hE], by rw [← hRES, hE]⟩, by rw [ht]; exact hP, va_K.moved hW.alike hK, hD⟩⟩, hS.F ht⟩) hS.2.2 dX11_sendsOne_110
  · have t_c_7 := Int32.lt_iff_toInt_lt.mp (Int32.not_le.mp c_7)
    have hE := hE.trans (if_neg c_7)
    refine lv_aload_n hx hb dX11_sendsOne_17 rfl (lv_at hl 0 rfl) ?_
    refine va_get (D := D) (ci := 11) (v := .ref (mq 59)) (C := RX11) (T := TX11) (N := 74) hx hb ha inlX11 hown hK hP 0 mw_at0 rfl 59 (by decide) (ha _ kf_X11_145) (fun _ h9 => h9) rfl dX11_sendsOne_18 ?_
    refine lv_iload_n hx hb dX11_sendsOne_21 rfl (lv_at hl 1 rfl) ?_
    refine lv_dup2_11 hx hb dX11_sendsOne_22 rfl rfl ?_
    have hin_37 : vp_in f 4 := vpi_of (by omega) (by omega)
    refine va_iald hx hb hK hP 41 0 mw_at59 rfl hin_37 dX11_sendsOne_23 ?_
    refine lv_topi (fun x_38 ex_38 => ?_)
    have hE := bd_at ex_38 hE
    have u_x_38 := congrArg Int32.toInt ex_38
    refine lv_iconst (v := 1) hx hb dX11_sendsOne_24 (by decide) ?_
    refine lv_iadd hx hb dX11_sendsOne_25 ?_
    refine lv_topi (fun x_39 ex_39 => ?_)
    have hE := bd_at ex_39 hE
    have hin_40 : vp_in f 4 := vpi_of (by omega) (by omega)
    refine va_iast hx hb hK hP hD hS 41 0 mw_at59 rfl hin_40 dX11_sendsOne_26 (fun H locs hP hD hS => ?_)
    have hP : va_P D vwCl (mw cI cZ h0 mq mi_2 (va_up ma_3 59 (upd (ma_3 59) f.toNatClampNeg x_39))) H := mwP_59 hP
    have hD : va_D A (mw cI cZ h0 mq mi_2 (va_up ma_3 59 (upd (ma_3 59) f.toNatClampNeg x_39))) := mwD_59 hD
    generalize hma_41 : va_up ma_3 59 (upd (ma_3 59) f.toNatClampNeg x_39) = ma_41 at hP hD
    have hI : MB mi_2 ma_41 := by rw [← hma_41]; exact MBa_agains hI
    have hFA : ∀ k, k ∉ ([31, 7, 8, 9, 59, 69, 46, 70, 61] : List Nat) → ma_41 k = ma0 k := fun k hk => by rw [← hma_41]; exact (va_up_ne _ _ (fun e => hk (by rw [e]; decide))).trans (hFA k hk)
    have hE := bs_at hma_41 hE
    refine lv_aload_n hx hb dX11_sendsOne_27 rfl (lv_at hl 0 rfl) ?_
    refine va_get (D := D) (ci := 11) (v := .ref (mq 69)) (C := RX11) (T := TX11) (N := 74) hx hb ha inlX11 hown hK hP 0 mw_at0 rfl 69 (by decide) (ha _ kf_X11_175) (fun _ h9 => h9) rfl dX11_sendsOne_28 ?_
    refine lv_iload_n hx hb dX11_sendsOne_31 rfl (lv_at hl 1 rfl) ?_
    have hin_42 : vp_in f 4 := vpi_of (by omega) (by omega)
    refine va_iald hx hb hK hP 51 0 mw_at69 rfl hin_42 dX11_sendsOne_32 ?_
    refine lv_topi (fun x_43 ex_43 => ?_)
    have hE := bd_at ex_43 hE
    have u_x_43 := congrArg Int32.toInt ex_43
    refine lv_iload_n hx hb dX11_sendsOne_33 rfl (lv_at hl 2 rfl) ?_
    refine lv_icmp_ne (tgt := 83) hx hb dX11_sendsOne_34 (by decide) (fun c_44 => ?_) (fun c_44 => ?_)
    · have t_c_44 := mt Int32.toInt_inj.mp c_44
      have hE := hE.trans (if_neg c_44)
      refine lv_aload_n hx hb dX11_sendsOne_83 rfl (lv_at hl 0 rfl) ?_
      refine va_get (D := D) (ci := 11) (v := .ref (mq 61)) (C := RX11) (T := TX11) (N := 74) hx hb ha inlX11 hown hK hP 0 mw_at0 rfl 61 (by decide) (ha _ kf_X11_151) (fun _ h9 => h9) rfl dX11_sendsOne_84 ?_
      refine lv_iload_n hx hb dX11_sendsOne_87 rfl (lv_at hl 1 rfl) ?_
      have hin_45 : vp_in f 4 := vpi_of (by omega) (by omega)
      refine va_iald hx hb hK hP 43 0 mw_at61 rfl hin_45 dX11_sendsOne_88 ?_
      refine lv_topi (fun x_46 ex_46 => ?_)
      have hE := bd_at ex_46 hE
      have u_x_46 := congrArg Int32.toInt ex_46
      refine lv_iconst (v := (-1)) hx hb dX11_sendsOne_89 (by decide) ?_
      refine lv_icmp_ne (tgt := 110) hx hb dX11_sendsOne_90 (by decide) (fun c_47 => ?_) (fun c_47 => ?_)
      · have t_c_47 := mt Int32.toInt_inj.mp c_47
        have hE := hE.trans (if_neg c_47)
        exact W.vret hx hb hr (fun t ht hW => ⟨⟨(), rfl, trivial, ⟨mi_2, ma_41, ⟨⟨hI, fun k hk => (hFI k hk).trans (by rw [hmi0]), fun k hk => (hFA k hk).trans (by rw [hma0])⟩, by rw [← hRES, hE], by rw [← hRES, hE]⟩, by rw [ht]; exact hP, va_K.moved hW.alike hK, hD⟩⟩, hS.F ht⟩) hS.2.2 dX11_sendsOne_110
      · have t_c_47 := congrArg Int32.toInt c_47
        have hE := hE.trans (if_pos c_47)
        refine lv_aload_n hx hb dX11_sendsOne_93 rfl (lv_at hl 0 rfl) ?_
        refine va_get (D := D) (ci := 11) (v := .ref (mq 61)) (C := RX11) (T := TX11) (N := 74) hx hb ha inlX11 hown hK hP 0 mw_at0 rfl 61 (by decide) (ha _ kf_X11_151) (fun _ h9 => h9) rfl dX11_sendsOne_94 ?_
        refine lv_iload_n hx hb dX11_sendsOne_97 rfl (lv_at hl 1 rfl) ?_
        refine lv_aload_n hx hb dX11_sendsOne_98 rfl (lv_at hl 0 rfl) ?_
        refine va_get (D := D) (ci := 11) (v := .int (mi_2 4)) (C := RX11) (T := TX11) (N := 74) hx hb ha inlX11 hown hK hP 0 mw_at0 rfl 4 (by decide) (ha _ kf_X11_207) (fun _ h9 => h9) rfl dX11_sendsOne_99 ?_
        refine lv_topi (fun x_48 ex_48 => ?_)
        have hE := bd_at ex_48 hE
        have u_x_48 := congrArg Int32.toInt ex_48
        have r_x_48 := MB_tick hI
        rw [← ex_48] at r_x_48
        refine lv_aload_n hx hb dX11_sendsOne_102 rfl (lv_at hl 0 rfl) ?_
        refine va_get (D := D) (ci := 11) (v := .ref (mq 49)) (C := RX11) (T := TX11) (N := 74) hx hb ha inlX11 hown hK hP 0 mw_at0 rfl 49 (by decide) (ha _ kf_X11_115) (fun _ h9 => h9) rfl dX11_sendsOne_103 ?_
        refine lv_iload_n hx hb dX11_sendsOne_106 rfl (lv_at hl 1 rfl) ?_
        have hin_49 : vp_in f 4 := vpi_of (by omega) (by omega)
        refine va_iald hx hb hK hP 31 0 mw_at49 rfl hin_49 dX11_sendsOne_107 ?_
        refine lv_topi (fun x_50 ex_50 => ?_)
        have hE := bd_at ex_50 hE
        have u_x_50 := congrArg Int32.toInt ex_50
        refine lv_iadd hx hb dX11_sendsOne_108 ?_
        refine lv_topi (fun x_51 ex_51 => ?_)
        have hE := bd_at ex_51 hE
        have hin_52 : vp_in f 4 := vpi_of (by omega) (by omega)
        refine va_iast hx hb hK hP hD hS 43 0 mw_at61 rfl hin_52 dX11_sendsOne_109 (fun H locs hP hD hS => ?_)
        have hP : va_P D vwCl (mw cI cZ h0 mq mi_2 (va_up ma_41 61 (upd (ma_41 61) f.toNatClampNeg x_51))) H := mwP_61 hP
        have hD : va_D A (mw cI cZ h0 mq mi_2 (va_up ma_41 61 (upd (ma_41 61) f.toNatClampNeg x_51))) := mwD_61 hD
        generalize hma_53 : va_up ma_41 61 (upd (ma_41 61) f.toNatClampNeg x_51) = ma_53 at hP hD
        have hI : MB mi_2 ma_53 := by rw [← hma_53]; exact MBa_timer hI
        have hFA : ∀ k, k ∉ ([31, 7, 8, 9, 59, 69, 46, 70, 61] : List Nat) → ma_53 k = ma0 k := fun k hk => by rw [← hma_53]; exact (va_up_ne _ _ (fun e => hk (by rw [e]; decide))).trans (hFA k hk)
        have hE := bs_at hma_53 hE
        exact W.vret hx hb hr (fun t ht hW => ⟨⟨(), rfl, trivial, ⟨mi_2, ma_53, ⟨⟨hI, fun k hk => (hFI k hk).trans (by rw [hmi0]), fun k hk => (hFA k hk).trans (by rw [hma0])⟩, by rw [← hRES, hE], by rw [← hRES, hE]⟩, by rw [ht]; exact hP, va_K.moved hW.alike hK, hD⟩⟩, hS.F ht⟩) hS.2.2 dX11_sendsOne_110
    · have t_c_44 := congrArg Int32.toInt c_44
      have hE := hE.trans (if_pos c_44)
      refine lv_aload_n hx hb dX11_sendsOne_37 rfl (lv_at hl 0 rfl) ?_
      refine va_get (D := D) (ci := 11) (v := .ref (mq 69)) (C := RX11) (T := TX11) (N := 74) hx hb ha inlX11 hown hK hP 0 mw_at0 rfl 69 (by decide) (ha _ kf_X11_175) (fun _ h9 => h9) rfl dX11_sendsOne_38 ?_
      refine lv_iload_n hx hb dX11_sendsOne_41 rfl (lv_at hl 1 rfl) ?_
      refine lv_iconst (v := (-1)) hx hb dX11_sendsOne_42 (by decide) ?_
      have hin_54 : vp_in f 4 := vpi_of (by omega) (by omega)
      refine va_iast hx hb hK hP hD hS 51 0 mw_at69 rfl hin_54 dX11_sendsOne_43 (fun H locs hP hD hS => ?_)
      have hP : va_P D vwCl (mw cI cZ h0 mq mi_2 (va_up ma_41 69 (upd (ma_41 69) f.toNatClampNeg ((-1) : Int32)))) H := mwP_69 hP
      have hD : va_D A (mw cI cZ h0 mq mi_2 (va_up ma_41 69 (upd (ma_41 69) f.toNatClampNeg ((-1) : Int32)))) := mwD_69 hD
      generalize hma_55 : va_up ma_41 69 (upd (ma_41 69) f.toNatClampNeg ((-1) : Int32)) = ma_55 at hP hD
      have hI : MB mi_2 ma_55 := by rw [← hma_55]; exact MBa_measured hI
      have hFA : ∀ k, k ∉ ([31, 7, 8, 9, 59, 69, 46, 70, 61] : List Nat) → ma_55 k = ma0 k := fun k hk => by rw [← hma_55]; exact (va_up_ne _ _ (fun e => hk (by rw [e]; decide))).trans (hFA k hk)
      have hE := bs_at hma_55 hE
      refine lv_goto (tgt := 83) hx hb dX11_sendsOne_44 (by decide) ?_
      refine lv_aload_n hx hb dX11_sendsOne_83 rfl (lv_at hl 0 rfl) ?_
      refine va_get (D := D) (ci := 11) (v := .ref (mq 61)) (C := RX11) (T := TX11) (N := 74) hx hb ha inlX11 hown hK hP 0 mw_at0 rfl 61 (by decide) (ha _ kf_X11_151) (fun _ h9 => h9) rfl dX11_sendsOne_84 ?_
      refine lv_iload_n hx hb dX11_sendsOne_87 rfl (lv_at hl 1 rfl) ?_
      have hin_56 : vp_in f 4 := vpi_of (by omega) (by omega)
      refine va_iald hx hb hK hP 43 0 mw_at61 rfl hin_56 dX11_sendsOne_88 ?_
      refine lv_topi (fun x_57 ex_57 => ?_)
      have hE := bd_at ex_57 hE
      have u_x_57 := congrArg Int32.toInt ex_57
      refine lv_iconst (v := (-1)) hx hb dX11_sendsOne_89 (by decide) ?_
      refine lv_icmp_ne (tgt := 110) hx hb dX11_sendsOne_90 (by decide) (fun c_58 => ?_) (fun c_58 => ?_)
      · have t_c_58 := mt Int32.toInt_inj.mp c_58
        have hE := hE.trans (if_neg c_58)
        exact W.vret hx hb hr (fun t ht hW => ⟨⟨(), rfl, trivial, ⟨mi_2, ma_55, ⟨⟨hI, fun k hk => (hFI k hk).trans (by rw [hmi0]), fun k hk => (hFA k hk).trans (by rw [hma0])⟩, by rw [← hRES, hE], by rw [← hRES, hE]⟩, by rw [ht]; exact hP, va_K.moved hW.alike hK, hD⟩⟩, hS.F ht⟩) hS.2.2 dX11_sendsOne_110
      · have t_c_58 := congrArg Int32.toInt c_58
        have hE := hE.trans (if_pos c_58)
        refine lv_aload_n hx hb dX11_sendsOne_93 rfl (lv_at hl 0 rfl) ?_
        refine va_get (D := D) (ci := 11) (v := .ref (mq 61)) (C := RX11) (T := TX11) (N := 74) hx hb ha inlX11 hown hK hP 0 mw_at0 rfl 61 (by decide) (ha _ kf_X11_151) (fun _ h9 => h9) rfl dX11_sendsOne_94 ?_
        refine lv_iload_n hx hb dX11_sendsOne_97 rfl (lv_at hl 1 rfl) ?_
        refine lv_aload_n hx hb dX11_sendsOne_98 rfl (lv_at hl 0 rfl) ?_
        refine va_get (D := D) (ci := 11) (v := .int (mi_2 4)) (C := RX11) (T := TX11) (N := 74) hx hb ha inlX11 hown hK hP 0 mw_at0 rfl 4 (by decide) (ha _ kf_X11_207) (fun _ h9 => h9) rfl dX11_sendsOne_99 ?_
        refine lv_topi (fun x_59 ex_59 => ?_)
        have hE := bd_at ex_59 hE
        have u_x_59 := congrArg Int32.toInt ex_59
        have r_x_59 := MB_tick hI
        rw [← ex_59] at r_x_59
        refine lv_aload_n hx hb dX11_sendsOne_102 rfl (lv_at hl 0 rfl) ?_
        refine va_get (D := D) (ci := 11) (v := .ref (mq 49)) (C := RX11) (T := TX11) (N := 74) hx hb ha inlX11 hown hK hP 0 mw_at0 rfl 49 (by decide) (ha _ kf_X11_115) (fun _ h9 => h9) rfl dX11_sendsOne_103 ?_
        refine lv_iload_n hx hb dX11_sendsOne_106 rfl (lv_at hl 1 rfl) ?_
        have hin_60 : vp_in f 4 := vpi_of (by omega) (by omega)
        refine va_iald hx hb hK hP 31 0 mw_at49 rfl hin_60 dX11_sendsOne_107 ?_
        refine lv_topi (fun x_61 ex_61 => ?_)
        have hE := bd_at ex_61 hE
        have u_x_61 := congrArg Int32.toInt ex_61
        refine lv_iadd hx hb dX11_sendsOne_108 ?_
        refine lv_topi (fun x_62 ex_62 => ?_)
        have hE := bd_at ex_62 hE
        have hin_63 : vp_in f 4 := vpi_of (by omega) (by omega)
        refine va_iast hx hb hK hP hD hS 43 0 mw_at61 rfl hin_63 dX11_sendsOne_109 (fun H locs hP hD hS => ?_)
        have hP : va_P D vwCl (mw cI cZ h0 mq mi_2 (va_up ma_55 61 (upd (ma_55 61) f.toNatClampNeg x_62))) H := mwP_61 hP
        have hD : va_D A (mw cI cZ h0 mq mi_2 (va_up ma_55 61 (upd (ma_55 61) f.toNatClampNeg x_62))) := mwD_61 hD
        generalize hma_64 : va_up ma_55 61 (upd (ma_55 61) f.toNatClampNeg x_62) = ma_64 at hP hD
        have hI : MB mi_2 ma_64 := by rw [← hma_64]; exact MBa_timer hI
        have hFA : ∀ k, k ∉ ([31, 7, 8, 9, 59, 69, 46, 70, 61] : List Nat) → ma_64 k = ma0 k := fun k hk => by rw [← hma_64]; exact (va_up_ne _ _ (fun e => hk (by rw [e]; decide))).trans (hFA k hk)
        have hE := bs_at hma_64 hE
        exact W.vret hx hb hr (fun t ht hW => ⟨⟨(), rfl, trivial, ⟨mi_2, ma_64, ⟨⟨hI, fun k hk => (hFI k hk).trans (by rw [hmi0]), fun k hk => (hFA k hk).trans (by rw [hma0])⟩, by rw [← hRES, hE], by rw [← hRES, hE]⟩, by rw [ht]; exact hP, va_K.moved hW.alike hK, hD⟩⟩, hS.F ht⟩) hS.2.2 dX11_sendsOne_110

set_option maxRecDepth 100000 in
def x_sendsAgain (f : Int32) (g : Int32) (mi : Nat → Int32) (ma : Nat → Nat → Int32) : XT := bd ((512 : Int32) * f) (fun v1 => bd (g - g / (512 : Int32) * (512 : Int32)) (fun v2 => bd (v1 + v2) (fun v3 => bd (va_up ma 72 (upd (ma 72) v3.toNatClampNeg (vp_nar .boolean (1 : Int32)))) (fun a4 => bc (x_sendsOne f g mi a4) (fun m5 a6 _ => (m5, a6, 0))))))
set_option maxHeartbeats 4000000 in
set_option maxRecDepth 100000 in
theorem m_sendsAgain (l : Launch) (D : va_G) (cI cJ cZ cO : ClassId) (sz : Nat) (h0 : Nat) (mq : Nat → Nat) (mi : Nat → Int32) (ma : Nat → Nat → Int32) (ph : Nat) (cl : Int) (f g : Int32) (hI : MB mi ma) (hf0 : 0 ≤ f.toInt) (hf4 : f.toInt < 4) (hff : f.toInt < (mi 32).toInt) (hg0 : 0 ≤ g.toInt) (hg1 : g.toInt ≤ 1000000) (hg2 : g.toInt + 1 ≤ (ma 44 f.toNatClampNeg).toInt + 200) : Met l yX11_sendsAgain (wa yX11_sendsAgain cX11_sendsAgain 3 none) ({ frames := 2, cells := 0, slots := 0, locals := 47 }) (va_Pc [.ref h0, .int f, .int g] (pw_s D cI cJ cZ cO sz (mw cI cZ h0 mq mi ma))) (va_Qv (fun (_ : Unit) => True) (fun (_ : Unit) (t : State) => ∃ (mi2 : Nat → Int32) (ma2 : Nat → Nat → Int32), ((MB mi2 ma2 ∧ (∀ k, k ∉ ([26, 30, 28, 27, 6, 5] : List Nat) → mi2 k = mi k) ∧ (∀ k, k ∉ ([31, 7, 8, 9, 59, 69, 46, 70, 61, 72] : List Nat) → ma2 k = ma k) ∧ ma2 72 = upd (ma 72) (512 * f + (g - g / 512 * 512)).toNatClampNeg 1) ∧ mi2 = (x_sendsAgain f g mi ma).1 ∧ ma2 = (x_sendsAgain f g mi ma).2.1) ∧ pw_t D cI cJ cZ cO (va_A (mw cI cZ h0 mq mi ma) sz) (mw cI cZ h0 mq mi2 ma2) t) (va_A (mw cI cZ h0 mq mi ma) sz)) 0 0 (va_A (mw cI cZ h0 mq mi ma) sz) := by
  refine Met.ofW (cc := cX11_sendsAgain) (maxL := 3) (ret := none) (by decide) rfl ?_
  intro p e s m args below meth c s₁ B hml hv
  obtain ⟨rfl, hsz, hP, hK, hD0, hN⟩ := hv
  have hx := B.exec
  have hb := B.bytes
  have hr := B.returns
  have hts := atoms_spec (ws := (wa yX11_sendsAgain cX11_sendsAgain 3 none)) B.pre
  have ha : ∀ w ∈ wsL_law, w.before _ s = true := fun w h => hts w (List.mem_cons_of_mem _ h)
  have hown : s.vm.findClass RX11 = some m.cls := findClass_of_methodNamed B.named
  have hlocks := B.notSynchronized
  subst hsz
  have hD := hD0.self (sz := s.heap.size)
  generalize hAe : va_A (mw cI cZ h0 mq mi ma) s.heap.size = A at hD ⊢
  have hA : ∀ q : Nat, s.heap.size ≤ q → A q := fun q h => by rw [← hAe]; exact Or.inr h
  have hS : va_S A s.heap s.heap [] := va_S.rf
  have hP : va_P D vwCl (mw cI cZ h0 mq mi ma) s.heap := hP
  have hl := lv_entry ([.ref h0, .int f, .int g]) (n := 3) (Nat.le_of_ble_eq_true rfl)
  rw [lg_entry_eq]
  generalize (lg_sl ([.ref h0, .int f, .int g]) ++ List.replicate (3 - (lg_sl ([.ref h0, .int f, .int g])).length) Slot.unset).toArray = ls at hl ⊢
  have hl : lv_has ls 3 [(0, .ref h0), (1, .int f), (2, .int g)] := hl
  have kc_m1 := tk_m1
  have kc_0 := tk_0
  have kc_1 := tk_1
  have kc_512 := tk_512
  obtain ⟨mi0, hmi0⟩ : ∃ y, y = mi := ⟨_, rfl⟩
  obtain ⟨ma0, hma0⟩ : ∃ y, y = ma := ⟨_, rfl⟩
  have hFI : ∀ k, k ∉ ([26, 30, 28, 27, 6, 5] : List Nat) → mi k = mi0 k := fun k _ => by rw [hmi0]
  have hFA : ∀ k, k ∉ ([31, 7, 8, 9, 59, 69, 46, 70, 61, 72] : List Nat) → ma k = ma0 k := fun k _ => by rw [hma0]
  obtain ⟨QP, hQP⟩ : ∃ y : State → Prop, y = (MQ below (va_Qv (fun (_ : Unit) => True) (fun (_ : Unit) (t : State) => ∃ (mi2 : Nat → Int32) (ma2 : Nat → Nat → Int32), ((MB mi2 ma2 ∧ (∀ k, k ∉ ([26, 30, 28, 27, 6, 5] : List Nat) → mi2 k = mi k) ∧ (∀ k, k ∉ ([31, 7, 8, 9, 59, 69, 46, 70, 61, 72] : List Nat) → ma2 k = ma k) ∧ ma2 72 = upd (ma 72) (512 * f + (g - g / 512 * 512)).toNatClampNeg 1) ∧ mi2 = (x_sendsAgain f g mi ma).1 ∧ ma2 = (x_sendsAgain f g mi ma).2.1) ∧ pw_t D cI cJ cZ cO A (mw cI cZ h0 mq mi2 ma2) t) A) #[(.ref h0 : Value), (.int f : Value), (.int g : Value)] s 0 0 A) := ⟨_, rfl⟩
  obtain ⟨RES, hRES⟩ : ∃ y, y = (x_sendsAgain f g mi ma) := ⟨_, rfl⟩
  have hfN : f.toNatClampNeg < 4 := in_lt (vpi_of (n := 4) hf0 (by omega))
  have hle := MB_le2n hI f.toNatClampNeg hfN
  have hlh := MB_le2h hI f.toNatClampNeg hfN
  -- from the entry
  have hE := hRES
  unfold x_sendsAgain at hE
  refine lv_aload_n hx hb dX11_sendsAgain_0 rfl (lv_at hl 0 rfl) ?_
  refine va_get (D := D) (ci := 11) (v := .ref (mq 72)) (C := RX11) (T := TX11) (N := 74) hx hb ha inlX11 hown hK hP 0 mw_at0 rfl 72 (by decide) (ha _ kf_X11_184) (fun _ h9 => h9) rfl dX11_sendsAgain_1 ?_
  refine lv_sipush (v := 512) hx hb dX11_sendsAgain_4 (by decide) ?_
  refine lv_iload_n hx hb dX11_sendsAgain_7 rfl (lv_at hl 1 rfl) ?_
  refine lv_imul hx hb dX11_sendsAgain_8 ?_
  refine lv_topi (fun x_1 ex_1 => ?_)
  have hE := bd_at ex_1 hE
  try have t_x_1 := ti_mulc (k := 512) ex_1 tk_512 (by omega) (by omega)
  refine lv_iload_n hx hb dX11_sendsAgain_9 rfl (lv_at hl 2 rfl) ?_
  refine lv_sipush (v := 512) hx hb dX11_sendsAgain_10 (by decide) ?_
  refine lv_irem hx hb dX11_sendsAgain_13 (by decide) ?_
  refine lv_topi (fun x_2 ex_2 => ?_)
  have hE := bd_at ex_2 hE
  have t_x_2 := ti_rem ex_2 (by omega)
  refine lv_iadd hx hb dX11_sendsAgain_14 ?_
  refine lv_topi (fun x_3 ex_3 => ?_)
  have hE := bd_at ex_3 hE
  try have t_x_3 := ti_add ex_3 (by omega) (by omega)
  refine lv_iconst (v := 1) hx hb dX11_sendsAgain_15 (by decide) ?_
  have hin_4 : vp_in x_3 2048 := vpi_of (by omega) (by omega)
  refine va_zast hx hb hK hP hD hS 54 2 mw_at72 rfl hin_4 dX11_sendsAgain_16 (fun H locs hP hD hS => ?_)
  have hP : va_P D vwCl (mw cI cZ h0 mq mi (va_up ma 72 (upd (ma 72) x_3.toNatClampNeg (vp_nar .boolean (1 : Int32))))) H := mwP_72 hP
  have hD : va_D A (mw cI cZ h0 mq mi (va_up ma 72 (upd (ma 72) x_3.toNatClampNeg (vp_nar .boolean (1 : Int32))))) := mwD_72 hD
  generalize hma_5 : va_up ma 72 (upd (ma 72) x_3.toNatClampNeg (vp_nar .boolean (1 : Int32))) = ma_5 at hP hD
  have hI : MB mi ma_5 := by rw [← hma_5]; exact MBa_resent hI
  have hFA : ∀ k, k ∉ ([31, 7, 8, 9, 59, 69, 46, 70, 61, 72] : List Nat) → ma_5 k = ma0 k := fun k hk => by rw [← hma_5]; exact (va_up_ne _ _ (fun e => hk (by rw [e]; decide))).trans (hFA k hk)
  have hE := bs_at hma_5 hE
  refine lv_aload_n hx hb dX11_sendsAgain_17 rfl (lv_at hl 0 rfl) ?_
  refine lv_iload_n hx hb dX11_sendsAgain_18 rfl (lv_at hl 1 rfl) ?_
  refine lv_iload_n hx hb dX11_sendsAgain_19 rfl (lv_at hl 2 rfl) ?_
  have hFc := va_freeW hD hS hA
  refine va_callv (va_runV (As := [.int f, .int g]) (rest := []) ⟨hx, hb, hml, hown, ha⟩ (m_sendsOne l D cI cJ cZ cO _ h0 mq mi ma_5 ph cl f g hI hf0 hf4 (by rw [hFI 32 (by decide), hmi0]; omega) hg0 hg1 (by rw [hFA 44 (by decide), hma0]; omega)) (cwV 2 ha (gaV kl_X11_332 km_X11_sendsOne ks_X11_sendsOne kz_X11 kd_X11_sendsOne) rfl rfl rfl (by decide +kernel) ⟨Nat.le_of_ble_eq_true rfl, Nat.le_of_ble_eq_true rfl⟩) ⟨pw_blind, va_recv hK hP (ci := 11) (q0 := 0) rfl rfl, fun U hU hW => ⟨rfl, pw_start hU hW hP hK hD hN⟩⟩ rfl rfl hl.1 rfl (lv_room (Nat.le_of_ble_eq_true rfl)) dX11_sendsAgain_20 ⟨Nat.le_of_ble_eq_true rfl, Nat.le_of_ble_eq_true rfl⟩) hS (fun q _ h => hFc q h) hFc (fun u t H1 locs ht hvm hw hB hz1 hk1 hS => ?_)
  obtain ⟨mi_7, ma_8, ⟨hf_9, hX1, hX2⟩, hP, hK1, hD1⟩ := hB
  have hE := bc_atv hX1 hX2 hE
  rw [ht] at hP
  have hD := hD1.weaken (fun k q _ h => hFc q.1 h)
  clear hD1
  generalize H1 = H at hP hS ⊢
  refine W.widen (k := 0) (n := 0) (Nat.le_refl _) (Nat.le_refl _) ?_
  have hI := hf_9.1
  have hFI : ∀ k, k ∉ ([26, 30, 28, 27, 6, 5] : List Nat) → mi_7 k = mi0 k := fun k hk => (hf_9.2.1 k (fun h => hk (by revert h; exact sub_of (by decide) k))).trans (hFI k hk)
  have hFA : ∀ k, k ∉ ([31, 7, 8, 9, 59, 69, 46, 70, 61, 72] : List Nat) → ma_8 k = ma0 k := fun k hk => (hf_9.2.2 k (fun h => hk (by revert h; exact sub_of (by decide) k))).trans (hFA k hk)
  exact W.vret hx hb hr (fun t ht hW => ⟨⟨(), rfl, trivial, ⟨mi_7, ma_8, ⟨⟨hI, fun k hk => (hFI k hk).trans (by rw [hmi0]), fun k hk => (hFA k hk).trans (by rw [hma0]), (hf_9.2.2 72 (by decide)).trans ((congrFun hma_5 72).symm.trans (by show upd (ma 72) x_3.toNatClampNeg (vp_nar .boolean 1) = _; rw [ex_3, ex_1, ex_2]; rfl))⟩, by rw [← hRES, hE], by rw [← hRES, hE]⟩, by rw [ht]; exact hP, va_K.moved hW.alike hK, hD⟩⟩, hS.F ht⟩) hS.2.2 dX11_sendsAgain_23
