theorem da_ca {ph : Nat} {cl : Int} {t wf we f e m : Int32} {at_ ow ch : Nat → Int32} (h : DA ph cl t wf we f e m at_ ow ch) : CA (we.toInt - wf.toInt + owc ow + chc ch + cl) (1530 + t.toInt + 1000 + ph) f.toInt f.toInt f.toInt e.toInt t.toInt at_ :=
  ⟨Int.le_refl _, Int.le_refl _, h.1, fun j h1 h2 => by omega, fun j h1 h2 => ⟨(h.2.1 j h1 h2).1, by have := (h.2.1 j h1 h2).2; omega⟩⟩
theorem ca_da {ph : Nat} {cl : Int} {t wf we f e m n : Int32} {k : Int} {at_ ow ch : Nat → Int32} (h : CA (we.toInt - wf.toInt + owc ow + chc ch + cl) (1530 + t.toInt + 1000 + ph) f.toInt n.toInt k e.toInt t.toInt at_) (hk : e.toInt ≤ k) (hm : ¬ m = 0) : DA ph cl t wf we f n m at_ ow ch ∧ ∀ j : Nat, f.toInt ≤ j → (j : Int) < n.toInt → t.toInt < (at_ j).toInt := by
  obtain ⟨a, b, c, d, g⟩ := h
  refine ⟨⟨a, fun j h1 h2 => ?_, fun q => absurd q hm⟩, fun j h1 h2 => (d j h1 h2).1⟩
  have := d j h1 h2
  omega

set_option maxRecDepth 100000 in
noncomputable def x_acksDownT_a (f : Int32) : Nat → Nat → (Nat → Int32) → (Nat → Nat → Int32) → Int32 → Int32 → Int32 → (Option XT)
  | 0, _, mi, ma, _, _, _ => none
  | fu + 1, tg, mi, ma, i3, i4, i5 => if tg = 13 then bd (mi 18) (fun v1 => (if v1 ≤ i4 then bd (upd mi 18 i3) (fun m2 => some (m2, ma, 0)) else bd (ma 20 i4.toNatClampNeg) (fun v3 => bd (mi 4) (fun v4 => (if v3 = v4 then bd (ma 21 i4.toNatClampNeg) (fun v15 => bo (x_heard v15 i4 mi ma) (fun m16 a17 _ => bd (i4 + 1) (fun v19 => x_acksDownT_a f fu 13 m16 a17 i3 v19 0))) else (if i4 ≤ i3 then x_acksDownT_a f fu 171 mi ma i3 i4 0 else bd (ma 20 i4.toNatClampNeg) (fun v5 => bd (va_up ma 20 (upd (ma 20) i3.toNatClampNeg v5)) (fun a6 => bd (a6 21 i4.toNatClampNeg) (fun v7 => bd (va_up a6 21 (upd (a6 21) i3.toNatClampNeg v7)) (fun a8 => bd (a8 22 i4.toNatClampNeg) (fun v9 => bd (va_up a8 22 (upd (a8 22) i3.toNatClampNeg v9)) (fun a10 => bd (a10 23 i4.toNatClampNeg) (fun v11 => bd (va_up a10 23 (upd (a10 23) i3.toNatClampNeg v11)) (fun a12 => bd (a12 24 i4.toNatClampNeg) (fun v13 => bd (va_up a12 24 (upd (a12 24) i3.toNatClampNeg (vp_nar .boolean v13))) (fun a14 => x_acksDownT_a f fu 130 mi a14 i3 i4 (0 : Int32))))))))))))))))) else if tg = 130 then (if (200 : Int32) ≤ i5 then x_acksDownT_a f fu 171 mi ma i3 i4 0 else bd ((200 : Int32) * i3) (fun v20 => bd (v20 + i5) (fun v21 => bd ((200 : Int32) * i4) (fun v22 => bd (v22 + i5) (fun v23 => bd (ma 25 v23.toNatClampNeg) (fun v24 => bd (va_up ma 25 (upd (ma 25) v21.toNatClampNeg (vp_nar .boolean v24))) (fun a25 => bd (i5 + 1) (fun v26 => x_acksDownT_a f fu 130 mi a25 i3 i4 v26)))))))) else bd (i3 + 1) (fun v27 => bd (i4 + 1) (fun v28 => x_acksDownT_a f fu 13 mi ma v27 v28 0))
set_option maxRecDepth 100000 in
noncomputable def x_acksDownT (f : Int32) (mi : Nat → Int32) (ma : Nat → Nat → Int32) : (Option XT) := ax (MB mi ma ∧ (f = mi 17 ∧ ¬ mi 19 = 0) ∧ ∃ (ph : Nat) (cl : Int), DA ph cl (mi 4) (mi 10) (mi 11) (mi 17) (mi 18) (mi 19) (ma 20) (ma 40) (ma 41)) (x_acksDownT_a f (((mi 18).toInt * 1000 + 1000).toNat) 13 mi ma f f 0)
set_option maxHeartbeats 4000000 in
set_option maxRecDepth 100000 in
theorem m_acksDownT (l : Launch) (D : va_G) (cI cJ cZ cO : ClassId) (sz : Nat) (h0 : Nat) (mq : Nat → Nat) (mi : Nat → Int32) (ma : Nat → Nat → Int32) (ph : Nat) (cl : Int) (f : Int32) (hI : MB mi ma) (hfe : f = mi 17) (hmx : ¬ mi 19 = 0) (hU : DA ph cl (mi 4) (mi 10) (mi 11) (mi 17) (mi 18) (mi 19) (ma 20) (ma 40) (ma 41)) : Met l yX11_acksDown (wa yX11_acksDown cX11_acksDown 6 none) ({ frames := 5, cells := 0, slots := 0, locals := 119 }) (va_Pc [.ref h0, .int f, .int 1] (pw_s D cI cJ cZ cO sz (mw cI cZ h0 mq mi ma))) (va_Qv (fun (_ : Unit) => True) (fun (_ : Unit) (t : State) => ∃ (mi2 : Nat → Int32) (ma2 : Nat → Nat → Int32), ((MB mi2 ma2 ∧ (∀ k, k ∉ ([18, 26, 30, 28, 27, 6, 5] : List Nat) → mi2 k = mi k) ∧ (∀ k, k ∉ ([20, 21, 22, 23, 24, 25, 69, 51, 50, 52, 49, 44, 45, 60, 71, 61, 53, 47, 68, 67, 64, 65, 66, 54, 31, 7, 8, 9, 59, 46, 70, 72, 58, 63, 48, 55, 56] : List Nat) → ma2 k = ma k) ∧ (DA ph cl (mi2 4) (mi2 10) (mi2 11) (mi2 17) (mi2 18) (mi2 19) (ma2 20) (ma2 40) (ma2 41) ∧ ∀ k : Nat, (mi2 17).toInt ≤ k → (k : Int) < (mi2 18).toInt → (mi2 4).toInt < (ma2 20 k).toInt)) ∧ ∃ rr : Int32, (x_acksDownT f mi ma) = some (mi2, ma2, rr)) ∧ pw_t D cI cJ cZ cO (va_A (mw cI cZ h0 mq mi ma) sz) (mw cI cZ h0 mq mi2 ma2) t) (va_A (mw cI cZ h0 mq mi ma) sz)) 0 0 (va_A (mw cI cZ h0 mq mi ma) sz) := by
  refine Met.ofW (cc := cX11_acksDown) (maxL := 6) (ret := none) (by decide) rfl ?_
  intro p e s m args below meth c s₁ B hml hv
  obtain ⟨rfl, hsz, hP, hK, hD0, hN⟩ := hv
  have hx := B.exec
  have hb := B.bytes
  have hr := B.returns
  have hts := atoms_spec (ws := (wa yX11_acksDown cX11_acksDown 6 none)) B.pre
  have ha : ∀ w ∈ wsL_law, w.before _ s = true := fun w h => hts w (List.mem_cons_of_mem _ h)
  have hown : s.vm.findClass RX11 = some m.cls := findClass_of_methodNamed B.named
  have hlocks := B.notSynchronized
  subst hsz
  have hD := hD0.self (sz := s.heap.size)
  generalize hAe : va_A (mw cI cZ h0 mq mi ma) s.heap.size = A at hD ⊢
  have hA : ∀ q : Nat, s.heap.size ≤ q → A q := fun q h => by rw [← hAe]; exact Or.inr h
  have hS : va_S A s.heap s.heap [] := va_S.rf
  have hP : va_P D vwCl (mw cI cZ h0 mq mi ma) s.heap := hP
  have hl := lv_entry ([.ref h0, .int f, .int 1]) (n := 6) (Nat.le_of_ble_eq_true rfl)
  rw [lg_entry_eq]
  generalize (lg_sl ([.ref h0, .int f, .int 1]) ++ List.replicate (6 - (lg_sl ([.ref h0, .int f, .int 1])).length) Slot.unset).toArray = ls at hl ⊢
  have hl : lv_has ls 6 [(0, .ref h0), (1, .int f), (2, .int 1)] := hl
  have kc_m1 := tk_m1
  have kc_0 := tk_0
  have kc_1 := tk_1
  have kc_200 := tk_200
  obtain ⟨mi0, hmi0⟩ : ∃ y, y = mi := ⟨_, rfl⟩
  obtain ⟨ma0, hma0⟩ : ∃ y, y = ma := ⟨_, rfl⟩
  have hFI : ∀ k, k ∉ ([18, 26, 30, 28, 27, 6, 5] : List Nat) → mi k = mi0 k := fun k _ => by rw [hmi0]
  have hFA : ∀ k, k ∉ ([20, 21, 22, 23, 24, 25, 69, 51, 50, 52, 49, 44, 45, 60, 71, 61, 53, 47, 68, 67, 64, 65, 66, 54, 31, 7, 8, 9, 59, 46, 70, 72, 58, 63, 48, 55, 56] : List Nat) → ma k = ma0 k := fun k _ => by rw [hma0]
  obtain ⟨QP, hQP⟩ : ∃ y : State → Prop, y = (MQ below (va_Qv (fun (_ : Unit) => True) (fun (_ : Unit) (t : State) => ∃ (mi2 : Nat → Int32) (ma2 : Nat → Nat → Int32), ((MB mi2 ma2 ∧ (∀ k, k ∉ ([18, 26, 30, 28, 27, 6, 5] : List Nat) → mi2 k = mi k) ∧ (∀ k, k ∉ ([20, 21, 22, 23, 24, 25, 69, 51, 50, 52, 49, 44, 45, 60, 71, 61, 53, 47, 68, 67, 64, 65, 66, 54, 31, 7, 8, 9, 59, 46, 70, 72, 58, 63, 48, 55, 56] : List Nat) → ma2 k = ma k) ∧ (DA ph cl (mi2 4) (mi2 10) (mi2 11) (mi2 17) (mi2 18) (mi2 19) (ma2 20) (ma2 40) (ma2 41) ∧ ∀ k : Nat, (mi2 17).toInt ≤ k → (k : Int) < (mi2 18).toInt → (mi2 4).toInt < (ma2 20 k).toInt)) ∧ ∃ rr : Int32, (x_acksDownT f mi ma) = some (mi2, ma2, rr)) ∧ pw_t D cI cJ cZ cO A (mw cI cZ h0 mq mi2 ma2) t) A) #[(.ref h0 : Value), (.int f : Value), (.int 1 : Value)] s 0 0 A) := ⟨_, rfl⟩
  obtain ⟨RES, hRES⟩ : ∃ y, y = (x_acksDownT f mi ma) := ⟨_, rfl⟩
  have y17 : (mi0 17).toInt = (mi 17).toInt := by rw [hmi0]
  have y18 : (mi0 18).toInt = (mi 18).toInt := by rw [hmi0]
  have yf : f.toInt = (mi 17).toInt := by rw [hfe]
  have y3 := MB_ackFirst hI
  have y4 := MB_ackEnd hI
  have JG_a : ∀ (n_a : Nat), (∀ (mi : Nat → Int32) (ma : Nat → Nat → Int32) (i3 : Int32) (i4 : Int32) (H : Heap) (locs : List Loc), va_P D vwCl (mw cI cZ h0 mq mi ma) H → va_D A (mw cI cZ h0 mq mi ma) → va_S A s.heap H locs → MB mi ma → (∀ k, k ∉ ([18, 26, 30, 28, 27, 6, 5] : List Nat) → mi k = mi0 k) → (∀ k, k ∉ ([20, 21, 22, 23, 24, 25, 69, 51, 50, 52, 49, 44, 45, 60, 71, 61, 53, 47, 68, 67, 64, 65, 66, 54, 31, 7, 8, 9, 59, 46, 70, 72, 58, 63, 48, 55, 56] : List Nat) → ma k = ma0 k) → RES = x_acksDownT_a f n_a 13 mi ma i3 i4 0 → (mi 18 = mi0 18 ∧ CA ((mi0 11).toInt - (mi0 10).toInt + owc (ma0 40) + chc (ma0 41) + cl) (1530 + (mi0 4).toInt + 1000 + ph) (mi0 17).toInt i3.toInt i4.toInt (mi0 18).toInt (mi0 4).toInt (ma 20)) → ∀ (ls : Array Slot), lv_has ls 6 [(0, .ref h0), (1, .int f), (2, .int 1), (3, .int i3), (4, .int i4)] → (((mi0 18).toInt * 1000 - i4.toInt * 1000 + 999).toNat) < n_a → W p l e ({ frames := 5, cells := 0, slots := 0, locals := 119 }) s m #[(.ref h0 : Value), (.int f : Value), (.int 1 : Value)] below meth c H locs 0 0 QP (F0 m 13 ls [])) ∧ (∀ (mi : Nat → Int32) (ma : Nat → Nat → Int32) (i3 : Int32) (i4 : Int32) (i5 : Int32) (H : Heap) (locs : List Loc), va_P D vwCl (mw cI cZ h0 mq mi ma) H → va_D A (mw cI cZ h0 mq mi ma) → va_S A s.heap H locs → MB mi ma → (∀ k, k ∉ ([18, 26, 30, 28, 27, 6, 5] : List Nat) → mi k = mi0 k) → (∀ k, k ∉ ([20, 21, 22, 23, 24, 25, 69, 51, 50, 52, 49, 44, 45, 60, 71, 61, 53, 47, 68, 67, 64, 65, 66, 54, 31, 7, 8, 9, 59, 46, 70, 72, 58, 63, 48, 55, 56] : List Nat) → ma k = ma0 k) → RES = x_acksDownT_a f n_a 130 mi ma i3 i4 i5 → (mi 18 = mi0 18 ∧ CA ((mi0 11).toInt - (mi0 10).toInt + owc (ma0 40) + chc (ma0 41) + cl) (1530 + (mi0 4).toInt + 1000 + ph) (mi0 17).toInt (i3.toInt + 1) (i4.toInt + 1) (mi0 18).toInt (mi0 4).toInt (ma 20) ∧ 0 ≤ i5.toInt ∧ i5.toInt ≤ 200 ∧ (mi0 17).toInt ≤ i3.toInt ∧ i3.toInt < i4.toInt) → ∀ (ls : Array Slot), lv_has ls 6 [(0, .ref h0), (1, .int f), (2, .int 1), (3, .int i3), (4, .int i4), (5, .int i5)] → (((mi0 18).toInt * 1000 - i4.toInt * 1000 + 300 - i5.toInt).toNat) < n_a → W p l e ({ frames := 5, cells := 0, slots := 0, locals := 119 }) s m #[(.ref h0 : Value), (.int f : Value), (.int 1 : Value)] below meth c H locs 0 0 QP (F0 m 130 ls [])) ∧ (∀ (mi : Nat → Int32) (ma : Nat → Nat → Int32) (i3 : Int32) (i4 : Int32) (H : Heap) (locs : List Loc), va_P D vwCl (mw cI cZ h0 mq mi ma) H → va_D A (mw cI cZ h0 mq mi ma) → va_S A s.heap H locs → MB mi ma → (∀ k, k ∉ ([18, 26, 30, 28, 27, 6, 5] : List Nat) → mi k = mi0 k) → (∀ k, k ∉ ([20, 21, 22, 23, 24, 25, 69, 51, 50, 52, 49, 44, 45, 60, 71, 61, 53, 47, 68, 67, 64, 65, 66, 54, 31, 7, 8, 9, 59, 46, 70, 72, 58, 63, 48, 55, 56] : List Nat) → ma k = ma0 k) → RES = x_acksDownT_a f n_a 171 mi ma i3 i4 0 → (mi 18 = mi0 18 ∧ CA ((mi0 11).toInt - (mi0 10).toInt + owc (ma0 40) + chc (ma0 41) + cl) (1530 + (mi0 4).toInt + 1000 + ph) (mi0 17).toInt (i3.toInt + 1) (i4.toInt + 1) (mi0 18).toInt (mi0 4).toInt (ma 20) ∧ i4.toInt < (mi0 18).toInt) → ∀ (ls : Array Slot), lv_has ls 6 [(0, .ref h0), (1, .int f), (2, .int 1), (3, .int i3), (4, .int i4)] → (((mi0 18).toInt * 1000 - i4.toInt * 1000 + 1).toNat) < n_a → W p l e ({ frames := 5, cells := 0, slots := 0, locals := 119 }) s m #[(.ref h0 : Value), (.int f : Value), (.int 1 : Value)] below meth c H locs 0 0 QP (F0 m 171 ls [])) := by
    intro n_a
    induction n_a with
    | zero => exact ⟨(by intros; exact absurd ‹_ < 0› (Nat.not_lt_zero _)), (by intros; exact absurd ‹_ < 0› (Nat.not_lt_zero _)), (by intros; exact absurd ‹_ < 0› (Nat.not_lt_zero _))⟩
    | succ n_a ih_a =>
      obtain ⟨ih_13, ih_130, ih_171⟩ := ih_a
      refine ⟨?_, ?_, ?_⟩
      · intro mi ma i3 i4 H locs hP hD hS hI hFI hFA hE hv ls hl hm
        rw [x_acksDownT_a] at hE
        have hE := hE.trans (if_pos rfl)
        have v1 := congrArg Int32.toInt hv.1
        have v3 := MB_ackFirst hI
        have v4 := MB_ackEnd hI
        have v17 := congrArg Int32.toInt (hFI 17 (by decide))
        have vt := congrArg Int32.toInt (hFI 4 (by decide))
        have c09 := hv.2.1
        have c19 := hv.2.2.1
        have c29 := hv.2.2.2.1
        refine lv_iload hx hb dX11_acksDown_13 (lv_at hl 4 rfl) ?_
        refine lv_aload_n hx hb dX11_acksDown_15 rfl (lv_at hl 0 rfl) ?_
        refine va_get (D := D) (ci := 11) (v := .int (mi 18)) (C := RX11) (T := TX11) (N := 74) hx hb ha inlX11 hown hK hP 0 mw_at0 rfl 18 (by decide) (ha _ kf_X11_268) (fun _ h9 => h9) rfl dX11_acksDown_16 ?_
        refine lv_topi (fun x_1 ex_1 => ?_)
        have hE := bd_at ex_1 hE
        have u_x_1 := congrArg Int32.toInt ex_1
        have r_x_1 := MB_ackEnd hI
        rw [← ex_1] at r_x_1
        refine lv_icmp_ge (tgt := 180) hx hb dX11_acksDown_19 (by decide) (fun c_2 => ?_) (fun c_2 => ?_)
        · have t_c_2 := Int32.le_iff_toInt_le.mp c_2
          have hE := hE.trans (if_pos c_2)
          refine lv_iload_n hx hb dX11_acksDown_180 rfl (lv_at hl 2 rfl) ?_
          refine lv_if_ne (tgt := 189) hx hb dX11_acksDown_181 (by decide) (fun c_3 => ?_) (fun c_3 => ?_)
          rotate_left
          · exact absurd c_3 (by decide)
          refine lv_aload_n hx hb dX11_acksDown_189 rfl (lv_at hl 0 rfl) ?_
          refine lv_iload_n hx hb dX11_acksDown_190 rfl (lv_at hl 3 rfl) ?_
          refine va_put (D := D) (ci := 11) (v := .int i3) (ty := .int) (C := RX11) (T := TX11) (N := 74) hx hb ha inlX11 tyX11 tyX11_ok nmX11 hown hK hP hD hS 0 mw_at0 rfl 18 (by decide) (ha _ kf_X11_268) (fun _ h9 => h9) rfl (by decide +kernel) rfl rfl (Nat.le_of_ble_eq_true rfl) dX11_acksDown_191 (fun H locs hP hD hS => ?_)
          have hP : va_P D vwCl (mw cI cZ h0 mq (upd mi 18 i3) ma) H := mwP_18 hP
          have hD : va_D A (mw cI cZ h0 mq (upd mi 18 i3) ma) := mwD_18 hD
          generalize hmi_4 : upd mi 18 i3 = mi_4 at hP hD
          have hI : MB mi_4 ma := by rw [← hmi_4]; exact MBi_ae2 hI (by omega) (by omega) (by omega) (by omega)
          have hFI : ∀ k, k ∉ ([18, 26, 30, 28, 27, 6, 5] : List Nat) → mi_4 k = mi0 k := fun k hk => by rw [← hmi_4]; exact (if_neg (fun e => hk (by rw [e]; decide))).trans (hFI k hk)
          have hE := bs_at hmi_4 hE
          rw [hQP]
          exact W.vret hx hb hr (fun t ht hW => ⟨⟨(), rfl, trivial, ⟨mi_4, ma, ⟨⟨hI, fun k hk => (hFI k hk).trans (by rw [hmi0]), fun k hk => (hFA k hk).trans (by rw [hma0]), (by rw [show mi_4 4 = mi0 4 from hFI 4 (by decide), show mi_4 10 = mi0 10 from hFI 10 (by decide), show mi_4 11 = mi0 11 from hFI 11 (by decide), show mi_4 17 = mi0 17 from hFI 17 (by decide), show mi_4 19 = mi0 19 from hFI 19 (by decide), show mi_4 18 = i3 from ((congrFun hmi_4 18).symm), show ma 40 = ma0 40 from hFA 40 (by decide), show ma 41 = ma0 41 from hFA 41 (by decide)]; exact ca_da hv.2 (by omega) (by rw [hmi0]; exact hmx))⟩, _, hRES.symm.trans hE⟩, by rw [ht]; exact hP, va_K.moved hW.alike hK, hD⟩⟩, hS.F ht⟩) hS.2.2 dX11_acksDown_194
        · have t_c_2 := Int32.lt_iff_toInt_lt.mp (Int32.not_le.mp c_2)
          have hE := hE.trans (if_neg c_2)
          refine lv_iload_n hx hb dX11_acksDown_22 rfl (lv_at hl 2 rfl) ?_
          refine lv_if_eq (tgt := 56) hx hb dX11_acksDown_23 (by decide) (fun c_5 => ?_) (fun c_5 => ?_)
          · exact absurd c_5 (by decide)
          refine lv_aload_n hx hb dX11_acksDown_26 rfl (lv_at hl 0 rfl) ?_
          refine va_get (D := D) (ci := 11) (v := .ref (mq 20)) (C := RX11) (T := TX11) (N := 74) hx hb ha inlX11 hown hK hP 0 mw_at0 rfl 20 (by decide) (ha _ kf_X11_45) (fun _ h9 => h9) rfl dX11_acksDown_27 ?_
          refine lv_iload hx hb dX11_acksDown_30 (lv_at hl 4 rfl) ?_
          have hin_6 : vp_in i4 6000 := vpi_of (by omega) (by omega)
          refine va_iald hx hb hK hP 8 0 mw_at20 rfl hin_6 dX11_acksDown_32 ?_
          refine lv_topi (fun x_7 ex_7 => ?_)
          have hE := bd_at ex_7 hE
          have u_x_7 := congrArg Int32.toInt ex_7
          refine lv_aload_n hx hb dX11_acksDown_33 rfl (lv_at hl 0 rfl) ?_
          refine va_get (D := D) (ci := 11) (v := .int (mi 4)) (C := RX11) (T := TX11) (N := 74) hx hb ha inlX11 hown hK hP 0 mw_at0 rfl 4 (by decide) (ha _ kf_X11_207) (fun _ h9 => h9) rfl dX11_acksDown_34 ?_
          refine lv_topi (fun x_8 ex_8 => ?_)
          have hE := bd_at ex_8 hE
          have u_x_8 := congrArg Int32.toInt ex_8
          have r_x_8 := MB_tick hI
          rw [← ex_8] at r_x_8
          refine lv_icmp_ne (tgt := 56) hx hb dX11_acksDown_37 (by decide) (fun c_9 => ?_) (fun c_9 => ?_)
          · have t_c_9 := mt Int32.toInt_inj.mp c_9
            have hE := hE.trans (if_neg c_9)
            refine lv_iload_n hx hb dX11_acksDown_56 rfl (lv_at hl 3 rfl) ?_
            refine lv_iload hx hb dX11_acksDown_57 (lv_at hl 4 rfl) ?_
            refine lv_icmp_ge (tgt := 171) hx hb dX11_acksDown_59 (by decide) (fun c_10 => ?_) (fun c_10 => ?_)
            · have t_c_10 := Int32.le_iff_toInt_le.mp c_10
              have hE := hE.trans (if_pos c_10)
              exact ih_171 mi ma i3 i4 _ _ hP hD hS hI hFI hFA hE ⟨hv.1, ca_skip hv.2 (by omega) (by omega) ex_7 (by rw [show (mi0 4).toInt = x_8.toInt by omega]; exact t_c_9) (by omega) rfl rfl, by omega⟩ _ (lv_sub hl [0, 1, 2, 3, 4] rfl) (by omega)
            · have t_c_10 := Int32.lt_iff_toInt_lt.mp (Int32.not_le.mp c_10)
              have hE := hE.trans (if_neg c_10)
              refine lv_aload_n hx hb dX11_acksDown_62 rfl (lv_at hl 0 rfl) ?_
              refine va_get (D := D) (ci := 11) (v := .ref (mq 20)) (C := RX11) (T := TX11) (N := 74) hx hb ha inlX11 hown hK hP 0 mw_at0 rfl 20 (by decide) (ha _ kf_X11_45) (fun _ h9 => h9) rfl dX11_acksDown_63 ?_
              refine lv_iload_n hx hb dX11_acksDown_66 rfl (lv_at hl 3 rfl) ?_
              refine lv_aload_n hx hb dX11_acksDown_67 rfl (lv_at hl 0 rfl) ?_
              refine va_get (D := D) (ci := 11) (v := .ref (mq 20)) (C := RX11) (T := TX11) (N := 74) hx hb ha inlX11 hown hK hP 0 mw_at0 rfl 20 (by decide) (ha _ kf_X11_45) (fun _ h9 => h9) rfl dX11_acksDown_68 ?_
              refine lv_iload hx hb dX11_acksDown_71 (lv_at hl 4 rfl) ?_
              have hin_11 : vp_in i4 6000 := vpi_of (by omega) (by omega)
              refine va_iald hx hb hK hP 8 0 mw_at20 rfl hin_11 dX11_acksDown_73 ?_
              refine lv_topi (fun x_12 ex_12 => ?_)
              have hE := bd_at ex_12 hE
              have u_x_12 := congrArg Int32.toInt ex_12
              have hin_13 : vp_in i3 6000 := vpi_of (by omega) (by omega)
              refine va_iast hx hb hK hP hD hS 8 0 mw_at20 rfl hin_13 dX11_acksDown_74 (fun H locs hP hD hS => ?_)
              have hP : va_P D vwCl (mw cI cZ h0 mq mi (va_up ma 20 (upd (ma 20) i3.toNatClampNeg x_12))) H := mwP_20 hP
              have hD : va_D A (mw cI cZ h0 mq mi (va_up ma 20 (upd (ma 20) i3.toNatClampNeg x_12))) := mwD_20 hD
              generalize hma_14 : va_up ma 20 (upd (ma 20) i3.toNatClampNeg x_12) = ma_14 at hP hD
              have hI : MB mi ma_14 := by rw [← hma_14]; exact MBa_ackAt hI
              have hFA : ∀ k, k ∉ ([20, 21, 22, 23, 24, 25, 69, 51, 50, 52, 49, 44, 45, 60, 71, 61, 53, 47, 68, 67, 64, 65, 66, 54, 31, 7, 8, 9, 59, 46, 70, 72, 58, 63, 48, 55, 56] : List Nat) → ma_14 k = ma0 k := fun k hk => by rw [← hma_14]; exact (va_up_ne _ _ (fun e => hk (by rw [e]; decide))).trans (hFA k hk)
              have hE := bs_at hma_14 hE
              refine lv_aload_n hx hb dX11_acksDown_75 rfl (lv_at hl 0 rfl) ?_
              refine va_get (D := D) (ci := 11) (v := .ref (mq 21)) (C := RX11) (T := TX11) (N := 74) hx hb ha inlX11 hown hK hP 0 mw_at0 rfl 21 (by decide) (ha _ kf_X11_48) (fun _ h9 => h9) rfl dX11_acksDown_76 ?_
              refine lv_iload_n hx hb dX11_acksDown_79 rfl (lv_at hl 3 rfl) ?_
              refine lv_aload_n hx hb dX11_acksDown_80 rfl (lv_at hl 0 rfl) ?_
              refine va_get (D := D) (ci := 11) (v := .ref (mq 21)) (C := RX11) (T := TX11) (N := 74) hx hb ha inlX11 hown hK hP 0 mw_at0 rfl 21 (by decide) (ha _ kf_X11_48) (fun _ h9 => h9) rfl dX11_acksDown_81 ?_
              refine lv_iload hx hb dX11_acksDown_84 (lv_at hl 4 rfl) ?_
              have hin_15 : vp_in i4 6000 := vpi_of (by omega) (by omega)
              refine va_iald hx hb hK hP 9 0 mw_at21 rfl hin_15 dX11_acksDown_86 ?_
              refine lv_topi (fun x_16 ex_16 => ?_)
              have hE := bd_at ex_16 hE
              have u_x_16 := congrArg Int32.toInt ex_16
              have r_x_16 := fw_ld (MB_ackFlow hI) hin_15 ex_16
              have hin_17 : vp_in i3 6000 := vpi_of (by omega) (by omega)
              refine va_iast hx hb hK hP hD hS 9 0 mw_at21 rfl hin_17 dX11_acksDown_87 (fun H locs hP hD hS => ?_)
              have hP : va_P D vwCl (mw cI cZ h0 mq mi (va_up ma_14 21 (upd (ma_14 21) i3.toNatClampNeg x_16))) H := mwP_21 hP
              have hD : va_D A (mw cI cZ h0 mq mi (va_up ma_14 21 (upd (ma_14 21) i3.toNatClampNeg x_16))) := mwD_21 hD
              generalize hma_18 : va_up ma_14 21 (upd (ma_14 21) i3.toNatClampNeg x_16) = ma_18 at hP hD
              have hI : MB mi ma_18 := by rw [← hma_18]; exact MBa_ackFlow hI (by omega) r_x_16.2
              have hFA : ∀ k, k ∉ ([20, 21, 22, 23, 24, 25, 69, 51, 50, 52, 49, 44, 45, 60, 71, 61, 53, 47, 68, 67, 64, 65, 66, 54, 31, 7, 8, 9, 59, 46, 70, 72, 58, 63, 48, 55, 56] : List Nat) → ma_18 k = ma0 k := fun k hk => by rw [← hma_18]; exact (va_up_ne _ _ (fun e => hk (by rw [e]; decide))).trans (hFA k hk)
              have hE := bs_at hma_18 hE
              refine lv_aload_n hx hb dX11_acksDown_88 rfl (lv_at hl 0 rfl) ?_
              refine va_get (D := D) (ci := 11) (v := .ref (mq 22)) (C := RX11) (T := TX11) (N := 74) hx hb ha inlX11 hown hK hP 0 mw_at0 rfl 22 (by decide) (ha _ kf_X11_51) (fun _ h9 => h9) rfl dX11_acksDown_89 ?_
              refine lv_iload_n hx hb dX11_acksDown_92 rfl (lv_at hl 3 rfl) ?_
              refine lv_aload_n hx hb dX11_acksDown_93 rfl (lv_at hl 0 rfl) ?_
              refine va_get (D := D) (ci := 11) (v := .ref (mq 22)) (C := RX11) (T := TX11) (N := 74) hx hb ha inlX11 hown hK hP 0 mw_at0 rfl 22 (by decide) (ha _ kf_X11_51) (fun _ h9 => h9) rfl dX11_acksDown_94 ?_
              refine lv_iload hx hb dX11_acksDown_97 (lv_at hl 4 rfl) ?_
              have hin_19 : vp_in i4 6000 := vpi_of (by omega) (by omega)
              refine va_iald hx hb hK hP 10 0 mw_at22 rfl hin_19 dX11_acksDown_99 ?_
              refine lv_topi (fun x_20 ex_20 => ?_)
              have hE := bd_at ex_20 hE
              have u_x_20 := congrArg Int32.toInt ex_20
              have r_x_20 := rg_ld (MB_ackNext hI) hin_19 ex_20
              have hin_21 : vp_in i3 6000 := vpi_of (by omega) (by omega)
              refine va_iast hx hb hK hP hD hS 10 0 mw_at22 rfl hin_21 dX11_acksDown_100 (fun H locs hP hD hS => ?_)
              have hP : va_P D vwCl (mw cI cZ h0 mq mi (va_up ma_18 22 (upd (ma_18 22) i3.toNatClampNeg x_20))) H := mwP_22 hP
              have hD : va_D A (mw cI cZ h0 mq mi (va_up ma_18 22 (upd (ma_18 22) i3.toNatClampNeg x_20))) := mwD_22 hD
              generalize hma_22 : va_up ma_18 22 (upd (ma_18 22) i3.toNatClampNeg x_20) = ma_22 at hP hD
              have hI : MB mi ma_22 := by rw [← hma_22]; exact MBa_ackNext hI (by omega) (by omega)
              have hFA : ∀ k, k ∉ ([20, 21, 22, 23, 24, 25, 69, 51, 50, 52, 49, 44, 45, 60, 71, 61, 53, 47, 68, 67, 64, 65, 66, 54, 31, 7, 8, 9, 59, 46, 70, 72, 58, 63, 48, 55, 56] : List Nat) → ma_22 k = ma0 k := fun k hk => by rw [← hma_22]; exact (va_up_ne _ _ (fun e => hk (by rw [e]; decide))).trans (hFA k hk)
              have hE := bs_at hma_22 hE
              refine lv_aload_n hx hb dX11_acksDown_101 rfl (lv_at hl 0 rfl) ?_
              refine va_get (D := D) (ci := 11) (v := .ref (mq 23)) (C := RX11) (T := TX11) (N := 74) hx hb ha inlX11 hown hK hP 0 mw_at0 rfl 23 (by decide) (ha _ kf_X11_54) (fun _ h9 => h9) rfl dX11_acksDown_102 ?_
              refine lv_iload_n hx hb dX11_acksDown_105 rfl (lv_at hl 3 rfl) ?_
              refine lv_aload_n hx hb dX11_acksDown_106 rfl (lv_at hl 0 rfl) ?_
              refine va_get (D := D) (ci := 11) (v := .ref (mq 23)) (C := RX11) (T := TX11) (N := 74) hx hb ha inlX11 hown hK hP 0 mw_at0 rfl 23 (by decide) (ha _ kf_X11_54) (fun _ h9 => h9) rfl dX11_acksDown_107 ?_
              refine lv_iload hx hb dX11_acksDown_110 (lv_at hl 4 rfl) ?_
              have hin_23 : vp_in i4 6000 := vpi_of (by omega) (by omega)
              refine va_iald hx hb hK hP 11 0 mw_at23 rfl hin_23 dX11_acksDown_112 ?_
              refine lv_topi (fun x_24 ex_24 => ?_)
              have hE := bd_at ex_24 hE
              have u_x_24 := congrArg Int32.toInt ex_24
              have r_x_24 := rg_ld (MB_ackWindow hI) hin_23 ex_24
              have hin_25 : vp_in i3 6000 := vpi_of (by omega) (by omega)
              refine va_iast hx hb hK hP hD hS 11 0 mw_at23 rfl hin_25 dX11_acksDown_113 (fun H locs hP hD hS => ?_)
              have hP : va_P D vwCl (mw cI cZ h0 mq mi (va_up ma_22 23 (upd (ma_22 23) i3.toNatClampNeg x_24))) H := mwP_23 hP
              have hD : va_D A (mw cI cZ h0 mq mi (va_up ma_22 23 (upd (ma_22 23) i3.toNatClampNeg x_24))) := mwD_23 hD
              generalize hma_26 : va_up ma_22 23 (upd (ma_22 23) i3.toNatClampNeg x_24) = ma_26 at hP hD
              have hI : MB mi ma_26 := by rw [← hma_26]; exact MBa_ackWindow hI (by omega) (by omega)
              have hFA : ∀ k, k ∉ ([20, 21, 22, 23, 24, 25, 69, 51, 50, 52, 49, 44, 45, 60, 71, 61, 53, 47, 68, 67, 64, 65, 66, 54, 31, 7, 8, 9, 59, 46, 70, 72, 58, 63, 48, 55, 56] : List Nat) → ma_26 k = ma0 k := fun k hk => by rw [← hma_26]; exact (va_up_ne _ _ (fun e => hk (by rw [e]; decide))).trans (hFA k hk)
              have hE := bs_at hma_26 hE
              refine lv_aload_n hx hb dX11_acksDown_114 rfl (lv_at hl 0 rfl) ?_
              refine va_get (D := D) (ci := 11) (v := .ref (mq 24)) (C := RX11) (T := TX11) (N := 74) hx hb ha inlX11 hown hK hP 0 mw_at0 rfl 24 (by decide) (ha _ kf_X11_57) (fun _ h9 => h9) rfl dX11_acksDown_115 ?_
              refine lv_iload_n hx hb dX11_acksDown_118 rfl (lv_at hl 3 rfl) ?_
              refine lv_aload_n hx hb dX11_acksDown_119 rfl (lv_at hl 0 rfl) ?_
              refine va_get (D := D) (ci := 11) (v := .ref (mq 24)) (C := RX11) (T := TX11) (N := 74) hx hb ha inlX11 hown hK hP 0 mw_at0 rfl 24 (by decide) (ha _ kf_X11_57) (fun _ h9 => h9) rfl dX11_acksDown_120 ?_
              refine lv_iload hx hb dX11_acksDown_123 (lv_at hl 4 rfl) ?_
              have hin_27 : vp_in i4 6000 := vpi_of (by omega) (by omega)
              refine va_zald hx hb hK hP 12 2 mw_at24 rfl hin_27 dX11_acksDown_125 ?_
              refine lv_topi (fun x_28 ex_28 => ?_)
              have hE := bd_at ex_28 hE
              have u_x_28 := congrArg Int32.toInt ex_28
              have hin_29 : vp_in i3 6000 := vpi_of (by omega) (by omega)
              refine va_zast hx hb hK hP hD hS 12 2 mw_at24 rfl hin_29 dX11_acksDown_126 (fun H locs hP hD hS => ?_)
              have hP : va_P D vwCl (mw cI cZ h0 mq mi (va_up ma_26 24 (upd (ma_26 24) i3.toNatClampNeg (vp_nar .boolean x_28)))) H := mwP_24 hP
              have hD : va_D A (mw cI cZ h0 mq mi (va_up ma_26 24 (upd (ma_26 24) i3.toNatClampNeg (vp_nar .boolean x_28)))) := mwD_24 hD
              generalize hma_30 : va_up ma_26 24 (upd (ma_26 24) i3.toNatClampNeg (vp_nar .boolean x_28)) = ma_30 at hP hD
              have hI : MB mi ma_30 := by rw [← hma_30]; exact MBa_ackPlain hI
              have hFA : ∀ k, k ∉ ([20, 21, 22, 23, 24, 25, 69, 51, 50, 52, 49, 44, 45, 60, 71, 61, 53, 47, 68, 67, 64, 65, 66, 54, 31, 7, 8, 9, 59, 46, 70, 72, 58, 63, 48, 55, 56] : List Nat) → ma_30 k = ma0 k := fun k hk => by rw [← hma_30]; exact (va_up_ne _ _ (fun e => hk (by rw [e]; decide))).trans (hFA k hk)
              have hE := bs_at hma_30 hE
              refine lv_iconst (v := 0) hx hb dX11_acksDown_127 (by decide) ?_
              refine lv_istore (lv' := [(5, .int 0), (0, .ref h0), (1, .int f), (2, .int 1), (3, .int i3), (4, .int i4)]) hx hb dX11_acksDown_128 hl (by decide) rfl (fun ls hl => ?_)
              exact ih_130 mi ma_30 i3 i4 (0 : Int32) _ _ hP hD hS hI hFI hFA hE ⟨hv.1, ca_keep hv.2 (by omega) (by omega) ex_12 (by rw [show (mi0 4).toInt = x_8.toInt by omega, show x_12 = x_7 from ex_12.trans ex_7.symm]; exact t_c_9) (((mu_ne (k := 24) (j := 20) hma_30 (by decide))).trans (((mu_ne (k := 23) (j := 20) hma_26 (by decide))).trans (((mu_ne (k := 22) (j := 20) hma_22 (by decide))).trans (((mu_ne (k := 21) (j := 20) hma_18 (by decide))).trans ((mu_eq (k := 20) hma_14)))))) rfl rfl, by omega, by omega, by omega, by omega⟩ _ (lv_sub hl [1, 2, 3, 4, 5, 0] rfl) (by omega)
          · have t_c_9 := congrArg Int32.toInt c_9
            have hE := hE.trans (if_pos c_9)
            refine lv_aload_n hx hb dX11_acksDown_40 rfl (lv_at hl 0 rfl) ?_
            refine lv_aload_n hx hb dX11_acksDown_41 rfl (lv_at hl 0 rfl) ?_
            refine va_get (D := D) (ci := 11) (v := .ref (mq 21)) (C := RX11) (T := TX11) (N := 74) hx hb ha inlX11 hown hK hP 0 mw_at0 rfl 21 (by decide) (ha _ kf_X11_48) (fun _ h9 => h9) rfl dX11_acksDown_42 ?_
            refine lv_iload hx hb dX11_acksDown_45 (lv_at hl 4 rfl) ?_
            have hin_31 : vp_in i4 6000 := vpi_of (by omega) (by omega)
            refine va_iald hx hb hK hP 9 0 mw_at21 rfl hin_31 dX11_acksDown_47 ?_
            refine lv_topi (fun x_32 ex_32 => ?_)
            have hE := bd_at ex_32 hE
            have u_x_32 := congrArg Int32.toInt ex_32
            have r_x_32 := fw_ld (MB_ackFlow hI) hin_31 ex_32
            refine lv_iload hx hb dX11_acksDown_48 (lv_at hl 4 rfl) ?_
            have hfl := MB_fla hI (by omega)
            have f4 := MB_flows hI
            have hFc := va_freeW hD hS hA
            refine va_callv (va_runV (As := [.int x_32, .int i4]) (rest := []) ⟨hx, hb, hml, hown, ha⟩ (m_heard l D cI cJ cZ cO _ h0 mq mi ma ph cl x_32 i4 hI (by omega) (by omega) (by omega) (by omega) (by omega)) (cwV 2 ha (gaV kl_X11_280 km_X11_heard ks_X11_heard kz_X11 kd_X11_heard) rfl rfl rfl (by decide +kernel) ⟨Nat.le_of_ble_eq_true rfl, Nat.le_of_ble_eq_true rfl⟩) ⟨pw_blind, va_recv hK hP (ci := 11) (q0 := 0) rfl rfl, fun U hU hW => ⟨rfl, pw_start hU hW hP hK hD hN⟩⟩ rfl rfl hl.1 rfl (lv_room (Nat.le_of_ble_eq_true rfl)) dX11_acksDown_50 ⟨Nat.le_of_ble_eq_true rfl, Nat.le_of_ble_eq_true rfl⟩) hS (fun q _ h => hFc q h) hFc (fun u t H1 locs ht hvm hw hB hz1 hk1 hS => ?_)
            obtain ⟨mi_34, ma_35, ⟨hf_36, rr_, hX⟩, hP, hK1, hD1⟩ := hB
            have hE := bo_at hX hE
            rw [ht] at hP
            have hD := hD1.weaken (fun k q _ h => hFc q.1 h)
            clear hD1
            generalize H1 = H at hP hS ⊢
            refine W.widen (k := 0) (n := 0) (Nat.le_refl _) (Nat.le_refl _) ?_
            have hI := hf_36.1
            have hFI : ∀ k, k ∉ ([18, 26, 30, 28, 27, 6, 5] : List Nat) → mi_34 k = mi0 k := fun k hk => (hf_36.2.1 k (fun h => hk (by revert h; exact sub_of (by decide) k))).trans (hFI k hk)
            have hFA : ∀ k, k ∉ ([20, 21, 22, 23, 24, 25, 69, 51, 50, 52, 49, 44, 45, 60, 71, 61, 53, 47, 68, 67, 64, 65, 66, 54, 31, 7, 8, 9, 59, 46, 70, 72, 58, 63, 48, 55, 56] : List Nat) → ma_35 k = ma0 k := fun k hk => (hf_36.2.2 k (fun h => hk (by revert h; exact sub_of (by decide) k))).trans (hFA k hk)
            refine lv_goto (tgt := 174) hx hb dX11_acksDown_53 (by decide) ?_
            obtain ⟨x_37, ex_37⟩ : ∃ y : Int32, y = i4 + 1 := ⟨_, rfl⟩
            have hE := bd_at ex_37 hE
            refine lv_iinc (v := x_37) (lv' := [(4, .int x_37), (0, .ref h0), (1, .int f), (2, .int 1), (3, .int i3)]) hx hb dX11_acksDown_174 hl (k := 4) rfl (by rw [ex_37]; rfl) (by decide) rfl (fun ls hl => ?_)
            try have t_x_37 := ti_add ex_37 (by omega) (by omega)
            refine lv_goto (tgt := 13) hx hb dX11_acksDown_177 (by decide) ?_
            exact ih_13 mi_34 ma_35 i3 x_37 _ _ hP hD hS hI hFI hFA hE ⟨((hf_36.2.1 18 (by decide))).trans hv.1, by rw [show ma_35 20 = ma 20 from (hf_36.2.2 20 (by decide))]; exact ca_take hv.2 (by omega) (by omega)⟩ _ (lv_sub hl [1, 2, 3, 4, 0] rfl) (by omega)
      · intro mi ma i3 i4 i5 H locs hP hD hS hI hFI hFA hE hv ls hl hm
        rw [x_acksDownT_a] at hE
        have hE := hE.trans (if_neg (by decide))
        have hE := hE.trans (if_pos rfl)
        have v1 := congrArg Int32.toInt hv.1
        have v3 := MB_ackFirst hI
        have v4 := MB_ackEnd hI
        have v17 := congrArg Int32.toInt (hFI 17 (by decide))
        have vt := congrArg Int32.toInt (hFI 4 (by decide))
        have c09 := hv.2.1.1
        have c19 := hv.2.1.2.1
        have c29 := hv.2.1.2.2.1
        have c39 := hv.2.2
        refine lv_iload hx hb dX11_acksDown_130 (lv_at hl 5 rfl) ?_
        refine lv_sipush (v := 200) hx hb dX11_acksDown_132 (by decide) ?_
        refine lv_icmp_ge (tgt := 171) hx hb dX11_acksDown_135 (by decide) (fun c_38 => ?_) (fun c_38 => ?_)
        · have t_c_38 := Int32.le_iff_toInt_le.mp c_38
          have hE := hE.trans (if_pos c_38)
          exact ih_171 mi ma i3 i4 _ _ hP hD hS hI hFI hFA hE ⟨hv.1, hv.2.1, by omega⟩ _ (lv_sub hl [0, 1, 2, 3, 4] rfl) (by omega)
        · have t_c_38 := Int32.lt_iff_toInt_lt.mp (Int32.not_le.mp c_38)
          have hE := hE.trans (if_neg c_38)
          refine lv_aload_n hx hb dX11_acksDown_138 rfl (lv_at hl 0 rfl) ?_
          refine va_get (D := D) (ci := 11) (v := .ref (mq 25)) (C := RX11) (T := TX11) (N := 74) hx hb ha inlX11 hown hK hP 0 mw_at0 rfl 25 (by decide) (ha _ kf_X11_61) (fun _ h9 => h9) rfl dX11_acksDown_139 ?_
          refine lv_sipush (v := 200) hx hb dX11_acksDown_142 (by decide) ?_
          refine lv_iload_n hx hb dX11_acksDown_145 rfl (lv_at hl 3 rfl) ?_
          refine lv_imul hx hb dX11_acksDown_146 ?_
          refine lv_topi (fun x_39 ex_39 => ?_)
          have hE := bd_at ex_39 hE
          try have t_x_39 := ti_mulc (k := 200) ex_39 tk_200 (by omega) (by omega)
          refine lv_iload hx hb dX11_acksDown_147 (lv_at hl 5 rfl) ?_
          refine lv_iadd hx hb dX11_acksDown_149 ?_
          refine lv_topi (fun x_40 ex_40 => ?_)
          have hE := bd_at ex_40 hE
          try have t_x_40 := ti_add ex_40 (by omega) (by omega)
          refine lv_aload_n hx hb dX11_acksDown_150 rfl (lv_at hl 0 rfl) ?_
          refine va_get (D := D) (ci := 11) (v := .ref (mq 25)) (C := RX11) (T := TX11) (N := 74) hx hb ha inlX11 hown hK hP 0 mw_at0 rfl 25 (by decide) (ha _ kf_X11_61) (fun _ h9 => h9) rfl dX11_acksDown_151 ?_
          refine lv_sipush (v := 200) hx hb dX11_acksDown_154 (by decide) ?_
          refine lv_iload hx hb dX11_acksDown_157 (lv_at hl 4 rfl) ?_
          refine lv_imul hx hb dX11_acksDown_159 ?_
          refine lv_topi (fun x_41 ex_41 => ?_)
          have hE := bd_at ex_41 hE
          try have t_x_41 := ti_mulc (k := 200) ex_41 tk_200 (by omega) (by omega)
          refine lv_iload hx hb dX11_acksDown_160 (lv_at hl 5 rfl) ?_
          refine lv_iadd hx hb dX11_acksDown_162 ?_
          refine lv_topi (fun x_42 ex_42 => ?_)
          have hE := bd_at ex_42 hE
          try have t_x_42 := ti_add ex_42 (by omega) (by omega)
          have hin_43 : vp_in x_42 1200000 := vpi_of (by omega) (by omega)
          refine va_zald hx hb hK hP 13 2 mw_at25 rfl hin_43 dX11_acksDown_163 ?_
          refine lv_topi (fun x_44 ex_44 => ?_)
          have hE := bd_at ex_44 hE
          have u_x_44 := congrArg Int32.toInt ex_44
          have hin_45 : vp_in x_40 1200000 := vpi_of (by omega) (by omega)
          refine va_zast hx hb hK hP hD hS 13 2 mw_at25 rfl hin_45 dX11_acksDown_164 (fun H locs hP hD hS => ?_)
          have hP : va_P D vwCl (mw cI cZ h0 mq mi (va_up ma 25 (upd (ma 25) x_40.toNatClampNeg (vp_nar .boolean x_44)))) H := mwP_25 hP
          have hD : va_D A (mw cI cZ h0 mq mi (va_up ma 25 (upd (ma 25) x_40.toNatClampNeg (vp_nar .boolean x_44)))) := mwD_25 hD
          generalize hma_46 : va_up ma 25 (upd (ma 25) x_40.toNatClampNeg (vp_nar .boolean x_44)) = ma_46 at hP hD
          have hI : MB mi ma_46 := by rw [← hma_46]; exact MBa_ackBoard hI
          have hFA : ∀ k, k ∉ ([20, 21, 22, 23, 24, 25, 69, 51, 50, 52, 49, 44, 45, 60, 71, 61, 53, 47, 68, 67, 64, 65, 66, 54, 31, 7, 8, 9, 59, 46, 70, 72, 58, 63, 48, 55, 56] : List Nat) → ma_46 k = ma0 k := fun k hk => by rw [← hma_46]; exact (va_up_ne _ _ (fun e => hk (by rw [e]; decide))).trans (hFA k hk)
          have hE := bs_at hma_46 hE
          obtain ⟨x_47, ex_47⟩ : ∃ y : Int32, y = i5 + 1 := ⟨_, rfl⟩
          have hE := bd_at ex_47 hE
          refine lv_iinc (v := x_47) (lv' := [(5, .int x_47), (0, .ref h0), (1, .int f), (2, .int 1), (3, .int i3), (4, .int i4)]) hx hb dX11_acksDown_165 hl (k := 5) rfl (by rw [ex_47]; rfl) (by decide) rfl (fun ls hl => ?_)
          try have t_x_47 := ti_add ex_47 (by omega) (by omega)
          refine lv_goto (tgt := 130) hx hb dX11_acksDown_168 (by decide) ?_
          exact ih_130 mi ma_46 i3 i4 x_47 _ _ hP hD hS hI hFI hFA hE ⟨hv.1, by rw [show ma_46 20 = ma 20 from (mu_ne (k := 25) (j := 20) hma_46 (by decide))]; exact hv.2.1, by omega, by omega, by omega, by omega⟩ _ (lv_sub hl [1, 2, 3, 4, 5, 0] rfl) (by omega)
      · intro mi ma i3 i4 H locs hP hD hS hI hFI hFA hE hv ls hl hm
        rw [x_acksDownT_a] at hE
        have hE := hE.trans (if_neg (by decide))
        have hE := hE.trans (if_neg (by decide))
        have v1 := congrArg Int32.toInt hv.1
        have v3 := MB_ackFirst hI
        have v4 := MB_ackEnd hI
        have v17 := congrArg Int32.toInt (hFI 17 (by decide))
        have vt := congrArg Int32.toInt (hFI 4 (by decide))
        have c09 := hv.2.1.1
        have c19 := hv.2.1.2.1
        have c29 := hv.2.1.2.2.1
        have c39 := hv.2.2
        obtain ⟨x_48, ex_48⟩ : ∃ y : Int32, y = i3 + 1 := ⟨_, rfl⟩
        have hE := bd_at ex_48 hE
        refine lv_iinc (v := x_48) (lv' := [(3, .int x_48), (0, .ref h0), (1, .int f), (2, .int 1), (4, .int i4)]) hx hb dX11_acksDown_171 hl (k := 3) rfl (by rw [ex_48]; rfl) (by decide) rfl (fun ls hl => ?_)
        try have t_x_48 := ti_add ex_48 (by omega) (by omega)
        obtain ⟨x_49, ex_49⟩ : ∃ y : Int32, y = i4 + 1 := ⟨_, rfl⟩
        have hE := bd_at ex_49 hE
        refine lv_iinc (v := x_49) (lv' := [(4, .int x_49), (3, .int x_48), (0, .ref h0), (1, .int f), (2, .int 1)]) hx hb dX11_acksDown_174 hl (k := 4) rfl (by rw [ex_49]; rfl) (by decide) rfl (fun ls hl => ?_)
        try have t_x_49 := ti_add ex_49 (by omega) (by omega)
        refine lv_goto (tgt := 13) hx hb dX11_acksDown_177 (by decide) ?_
        exact ih_13 mi ma x_48 x_49 _ _ hP hD hS hI hFI hFA hE ⟨hv.1, by rw [show x_48.toInt = i3.toInt + 1 by omega, show x_49.toInt = i4.toInt + 1 by omega]; exact hv.2.1⟩ _ (lv_sub hl [2, 3, 4, 1, 0] rfl) (by omega)
  -- from the entry
  rw [hQP] at JG_a
  have hE := hRES
  unfold x_acksDownT at hE
  have hE := ax_at (⟨hI, ⟨hfe, hmx⟩, _, _, hU⟩) hE
  refine lv_iload_n hx hb dX11_acksDown_0 rfl (lv_at hl 2 rfl) ?_
  refine lv_if_eq (tgt := 8) hx hb dX11_acksDown_1 (by decide) (fun c_50 => ?_) (fun c_50 => ?_)
  · exact absurd c_50 (by decide)
  refine lv_iload_n hx hb dX11_acksDown_4 rfl (lv_at hl 1 rfl) ?_
  refine lv_goto (tgt := 9) hx hb dX11_acksDown_5 (by decide) ?_
  refine lv_istore_n (lv' := [(3, .int f), (0, .ref h0), (1, .int f), (2, .int 1)]) hx hb dX11_acksDown_9 rfl hl (by decide) rfl (fun ls hl => ?_)
  refine lv_iload_n hx hb dX11_acksDown_10 rfl (lv_at hl 2 rfl) ?_
  refine lv_istore (lv' := [(4, .int f), (3, .int f), (0, .ref h0), (1, .int f), (2, .int 1)]) hx hb dX11_acksDown_11 hl (by decide) rfl (fun ls hl => ?_)
  exact (JG_a ((mi0 18).toInt * 1000 + 1000).toNat).1 mi ma f f _ _ hP hD hS hI hFI hFA (by rw [hmi0]; exact hE) ⟨by rw [hmi0], by rw [hmi0, hma0, hfe]; exact da_ca hU⟩ _ (lv_sub hl [2, 3, 4, 1, 0] rfl) (by omega)

set_option maxRecDepth 100000 in
noncomputable def x_hears_17 : Nat → (Nat → Int32) → (Nat → Nat → Int32) → (Option XT)
  | 0, mi, ma => none
  | fu + 1, mi, ma => bd (mi 17) (fun v1 => bd (mi 18) (fun v2 => (if v2 ≤ v1 then some (mi, ma, 0) else bd (mi 17) (fun v3 => bd (ma 20 v3.toNatClampNeg) (fun v4 => bd (mi 4) (fun v5 => (if v4 = v5 then bd (mi 17) (fun v6 => bd (v6 + (1 : Int32)) (fun v7 => bd (upd mi 17 v7) (fun m8 => bd (m8 17) (fun v9 => bd (v9 - (1 : Int32)) (fun v10 => bd (ma 21 v10.toNatClampNeg) (fun v11 => bd (m8 17) (fun v12 => bd (v12 - (1 : Int32)) (fun v13 => bo (x_heard v11 v13 m8 ma) (fun m14 a15 _ => x_hears_17 fu m14 a15))))))))) else some (mi, ma, 0))))))))
set_option maxRecDepth 100000 in
noncomputable def x_hears (mi : Nat → Int32) (ma : Nat → Nat → Int32) : (Option XT) := ax (MB mi ma ∧ ∃ (ph : Nat) (cl : Int), DA ph cl (mi 4) (mi 10) (mi 11) (mi 17) (mi 18) (mi 19) (ma 20) (ma 40) (ma 41)) (bd (mi 19) (fun v17 => (if v17 = (0 : Int32) then x_hears_17 7000 mi ma else bd (mi 17) (fun v18 => bo (x_acksDownT v18 mi ma) (fun m19 a20 _ => some (m19, a20, 0))))))
set_option maxHeartbeats 4000000 in
set_option maxRecDepth 100000 in
theorem m_hears (l : Launch) (D : va_G) (cI cJ cZ cO : ClassId) (sz : Nat) (h0 : Nat) (mq : Nat → Nat) (mi : Nat → Int32) (ma : Nat → Nat → Int32) (ph : Nat) (cl : Int) (hI : MB mi ma) (hU : DA ph cl (mi 4) (mi 10) (mi 11) (mi 17) (mi 18) (mi 19) (ma 20) (ma 40) (ma 41)) : Met l yX11_hears (wa yX11_hears cX11_hears 1 none) ({ frames := 6, cells := 0, slots := 0, locals := 144 }) (va_Pc [.ref h0] (pw_s D cI cJ cZ cO sz (mw cI cZ h0 mq mi ma))) (va_Qv (fun (_ : Unit) => True) (fun (_ : Unit) (t : State) => ∃ (mi2 : Nat → Int32) (ma2 : Nat → Nat → Int32), ((MB mi2 ma2 ∧ (∀ k, k ∉ ([17, 18, 26, 30, 28, 27, 6, 5] : List Nat) → mi2 k = mi k) ∧ (∀ k, k ∉ ([20, 21, 22, 23, 24, 25, 69, 51, 50, 52, 49, 44, 45, 60, 71, 61, 53, 47, 68, 67, 64, 65, 66, 54, 31, 7, 8, 9, 59, 46, 70, 72, 58, 63, 48, 55, 56] : List Nat) → ma2 k = ma k) ∧ (DA ph cl (mi2 4) (mi2 10) (mi2 11) (mi2 17) (mi2 18) (mi2 19) (ma2 20) (ma2 40) (ma2 41) ∧ ∀ k : Nat, (mi2 17).toInt ≤ k → (k : Int) < (mi2 18).toInt → (mi2 4).toInt < (ma2 20 k).toInt)) ∧ ∃ rr : Int32, (x_hears mi ma) = some (mi2, ma2, rr)) ∧ pw_t D cI cJ cZ cO (va_A (mw cI cZ h0 mq mi ma) sz) (mw cI cZ h0 mq mi2 ma2) t) (va_A (mw cI cZ h0 mq mi ma) sz)) 0 0 (va_A (mw cI cZ h0 mq mi ma) sz) := by
  refine Met.ofW (cc := cX11_hears) (maxL := 1) (ret := none) (by decide) rfl ?_
  intro p e s m args below meth c s₁ B hml hv
  obtain ⟨rfl, hsz, hP, hK, hD0, hN⟩ := hv
  have hx := B.exec
  have hb := B.bytes
  have hr := B.returns
  have hts := atoms_spec (ws := (wa yX11_hears cX11_hears 1 none)) B.pre
  have ha : ∀ w ∈ wsL_law, w.before _ s = true := fun w h => hts w (List.mem_cons_of_mem _ h)
  have hown : s.vm.findClass RX11 = some m.cls := findClass_of_methodNamed B.named
  have hlocks := B.notSynchronized
  subst hsz
  have hD := hD0.self (sz := s.heap.size)
  generalize hAe : va_A (mw cI cZ h0 mq mi ma) s.heap.size = A at hD ⊢
  have hA : ∀ q : Nat, s.heap.size ≤ q → A q := fun q h => by rw [← hAe]; exact Or.inr h
  have hS : va_S A s.heap s.heap [] := va_S.rf
  have hP : va_P D vwCl (mw cI cZ h0 mq mi ma) s.heap := hP
  have hl := lv_entry ([.ref h0]) (n := 1) (Nat.le_of_ble_eq_true rfl)
  rw [lg_entry_eq]
  generalize (lg_sl ([.ref h0]) ++ List.replicate (1 - (lg_sl ([.ref h0])).length) Slot.unset).toArray = ls at hl ⊢
  have hl : lv_has ls 1 [(0, .ref h0)] := hl
  have kc_m1 := tk_m1
  have kc_0 := tk_0
  have kc_1 := tk_1
  obtain ⟨mi0, hmi0⟩ : ∃ y, y = mi := ⟨_, rfl⟩
  obtain ⟨ma0, hma0⟩ : ∃ y, y = ma := ⟨_, rfl⟩
  have hFI : ∀ k, k ∉ ([17, 18, 26, 30, 28, 27, 6, 5] : List Nat) → mi k = mi0 k := fun k _ => by rw [hmi0]
  have hFA : ∀ k, k ∉ ([20, 21, 22, 23, 24, 25, 69, 51, 50, 52, 49, 44, 45, 60, 71, 61, 53, 47, 68, 67, 64, 65, 66, 54, 31, 7, 8, 9, 59, 46, 70, 72, 58, 63, 48, 55, 56] : List Nat) → ma k = ma0 k := fun k _ => by rw [hma0]
  obtain ⟨QP, hQP⟩ : ∃ y : State → Prop, y = (MQ below (va_Qv (fun (_ : Unit) => True) (fun (_ : Unit) (t : State) => ∃ (mi2 : Nat → Int32) (ma2 : Nat → Nat → Int32), ((MB mi2 ma2 ∧ (∀ k, k ∉ ([17, 18, 26, 30, 28, 27, 6, 5] : List Nat) → mi2 k = mi k) ∧ (∀ k, k ∉ ([20, 21, 22, 23, 24, 25, 69, 51, 50, 52, 49, 44, 45, 60, 71, 61, 53, 47, 68, 67, 64, 65, 66, 54, 31, 7, 8, 9, 59, 46, 70, 72, 58, 63, 48, 55, 56] : List Nat) → ma2 k = ma k) ∧ (DA ph cl (mi2 4) (mi2 10) (mi2 11) (mi2 17) (mi2 18) (mi2 19) (ma2 20) (ma2 40) (ma2 41) ∧ ∀ k : Nat, (mi2 17).toInt ≤ k → (k : Int) < (mi2 18).toInt → (mi2 4).toInt < (ma2 20 k).toInt)) ∧ ∃ rr : Int32, (x_hears mi ma) = some (mi2, ma2, rr)) ∧ pw_t D cI cJ cZ cO A (mw cI cZ h0 mq mi2 ma2) t) A) #[(.ref h0 : Value)] s 0 0 A) := ⟨_, rfl⟩
  obtain ⟨RES, hRES⟩ : ∃ y, y = (x_hears mi ma) := ⟨_, rfl⟩
  have y1 := MB_ackFirst hI
  have y2 := MB_ackEnd hI
  have J_17 : ∀ (n_17 : Nat), ∀ (mi : Nat → Int32) (ma : Nat → Nat → Int32) (H : Heap) (locs : List Loc), va_P D vwCl (mw cI cZ h0 mq mi ma) H → va_D A (mw cI cZ h0 mq mi ma) → va_S A s.heap H locs → MB mi ma → (∀ k, k ∉ ([17, 18, 26, 30, 28, 27, 6, 5] : List Nat) → mi k = mi0 k) → (∀ k, k ∉ ([20, 21, 22, 23, 24, 25, 69, 51, 50, 52, 49, 44, 45, 60, 71, 61, 53, 47, 68, 67, 64, 65, 66, 54, 31, 7, 8, 9, 59, 46, 70, 72, 58, 63, 48, 55, 56] : List Nat) → ma k = ma0 k) → RES = x_hears_17 n_17 mi ma → (DA ph cl (mi 4) (mi 10) (mi 11) (mi 17) (mi 18) (mi 19) (ma 20) (ma 40) (ma 41) ∧ mi 19 = 0) → ∀ (ls : Array Slot), lv_has ls 1 [(0, .ref h0)] → (((mi 18).toInt - (mi 17).toInt).toNat) < n_17 → W p l e ({ frames := 6, cells := 0, slots := 0, locals := 144 }) s m #[(.ref h0 : Value)] below meth c H locs 0 0 QP (F0 m 17 ls []) := by
    intro n_17
    induction n_17 with
    | zero => intros; exact absurd ‹_ < 0› (Nat.not_lt_zero _)
    | succ n_17 ih_17 =>
      intro mi ma H locs hP hD hS hI hFI hFA hE hv ls hl hm
      rw [x_hears_17] at hE
      have y1 := MB_ackFirst hI
      have y2 := MB_ackEnd hI
      refine lv_aload_n hx hb dX11_hears_17 rfl (lv_at hl 0 rfl) ?_
      refine va_get (D := D) (ci := 11) (v := .int (mi 17)) (C := RX11) (T := TX11) (N := 74) hx hb ha inlX11 hown hK hP 0 mw_at0 rfl 17 (by decide) (ha _ kf_X11_271) (fun _ h9 => h9) rfl dX11_hears_18 ?_
      refine lv_topi (fun x_1 ex_1 => ?_)
      have hE := bd_at ex_1 hE
      have u_x_1 := congrArg Int32.toInt ex_1
      have r_x_1 := MB_ackFirst hI
      rw [← ex_1] at r_x_1
      refine lv_aload_n hx hb dX11_hears_21 rfl (lv_at hl 0 rfl) ?_
      refine va_get (D := D) (ci := 11) (v := .int (mi 18)) (C := RX11) (T := TX11) (N := 74) hx hb ha inlX11 hown hK hP 0 mw_at0 rfl 18 (by decide) (ha _ kf_X11_268) (fun _ h9 => h9) rfl dX11_hears_22 ?_
      refine lv_topi (fun x_2 ex_2 => ?_)
      have hE := bd_at ex_2 hE
      have u_x_2 := congrArg Int32.toInt ex_2
      have r_x_2 := MB_ackEnd hI
      rw [← ex_2] at r_x_2
      refine lv_icmp_ge (tgt := 78) hx hb dX11_hears_25 (by decide) (fun c_3 => ?_) (fun c_3 => ?_)
      · have t_c_3 := Int32.le_iff_toInt_le.mp c_3
        have hE := hE.trans (if_pos c_3)
        rw [hQP]
        exact W.vret hx hb hr (fun t ht hW => ⟨⟨(), rfl, trivial, ⟨mi, ma, ⟨⟨hI, fun k hk => (hFI k hk).trans (by rw [hmi0]), fun k hk => (hFA k hk).trans (by rw [hma0]), ⟨hv.1, da_done hv.1 hv.2 y1.1 (fun w9 => by exfalso; omega)⟩⟩, _, hRES.symm.trans hE⟩, by rw [ht]; exact hP, va_K.moved hW.alike hK, hD⟩⟩, hS.F ht⟩) hS.2.2 dX11_hears_78
      · have t_c_3 := Int32.lt_iff_toInt_lt.mp (Int32.not_le.mp c_3)
        have hE := hE.trans (if_neg c_3)
        refine lv_aload_n hx hb dX11_hears_28 rfl (lv_at hl 0 rfl) ?_
        refine va_get (D := D) (ci := 11) (v := .ref (mq 20)) (C := RX11) (T := TX11) (N := 74) hx hb ha inlX11 hown hK hP 0 mw_at0 rfl 20 (by decide) (ha _ kf_X11_45) (fun _ h9 => h9) rfl dX11_hears_29 ?_
        refine lv_aload_n hx hb dX11_hears_32 rfl (lv_at hl 0 rfl) ?_
        refine va_get (D := D) (ci := 11) (v := .int (mi 17)) (C := RX11) (T := TX11) (N := 74) hx hb ha inlX11 hown hK hP 0 mw_at0 rfl 17 (by decide) (ha _ kf_X11_271) (fun _ h9 => h9) rfl dX11_hears_33 ?_
        refine lv_topi (fun x_4 ex_4 => ?_)
        have hE := bd_at ex_4 hE
        have u_x_4 := congrArg Int32.toInt ex_4
        have r_x_4 := MB_ackFirst hI
        rw [← ex_4] at r_x_4
        have hin_5 : vp_in x_4 6000 := vpi_of (by omega) (by omega)
        refine va_iald hx hb hK hP 8 0 mw_at20 rfl hin_5 dX11_hears_36 ?_
        refine lv_topi (fun x_6 ex_6 => ?_)
        have hE := bd_at ex_6 hE
        have u_x_6 := congrArg Int32.toInt ex_6
        refine lv_aload_n hx hb dX11_hears_37 rfl (lv_at hl 0 rfl) ?_
        refine va_get (D := D) (ci := 11) (v := .int (mi 4)) (C := RX11) (T := TX11) (N := 74) hx hb ha inlX11 hown hK hP 0 mw_at0 rfl 4 (by decide) (ha _ kf_X11_207) (fun _ h9 => h9) rfl dX11_hears_38 ?_
        refine lv_topi (fun x_7 ex_7 => ?_)
        have hE := bd_at ex_7 hE
        have u_x_7 := congrArg Int32.toInt ex_7
        have r_x_7 := MB_tick hI
        rw [← ex_7] at r_x_7
        refine lv_icmp_ne (tgt := 78) hx hb dX11_hears_41 (by decide) (fun c_8 => ?_) (fun c_8 => ?_)
        · have t_c_8 := mt Int32.toInt_inj.mp c_8
          have hE := hE.trans (if_neg c_8)
          rw [hQP]
          exact W.vret hx hb hr (fun t ht hW => ⟨⟨(), rfl, trivial, ⟨mi, ma, ⟨⟨hI, fun k hk => (hFI k hk).trans (by rw [hmi0]), fun k hk => (hFA k hk).trans (by rw [hma0]), ⟨hv.1, da_done hv.1 hv.2 y1.1 (fun _ => by rw [← ex_4, ← ex_6, ← ex_7]; exact t_c_8)⟩⟩, _, hRES.symm.trans hE⟩, by rw [ht]; exact hP, va_K.moved hW.alike hK, hD⟩⟩, hS.F ht⟩) hS.2.2 dX11_hears_78
        · have t_c_8 := congrArg Int32.toInt c_8
          have hE := hE.trans (if_pos c_8)
          have hfl := MB_fla hI (by omega)
          refine lv_aload_n hx hb dX11_hears_44 rfl (lv_at hl 0 rfl) ?_
          refine lv_dup hx hb dX11_hears_45 rfl ?_
          refine va_get (D := D) (ci := 11) (v := .int (mi 17)) (C := RX11) (T := TX11) (N := 74) hx hb ha inlX11 hown hK hP 0 mw_at0 rfl 17 (by decide) (ha _ kf_X11_271) (fun _ h9 => h9) rfl dX11_hears_46 ?_
          refine lv_topi (fun x_9 ex_9 => ?_)
          have hE := bd_at ex_9 hE
          have u_x_9 := congrArg Int32.toInt ex_9
          have r_x_9 := MB_ackFirst hI
          rw [← ex_9] at r_x_9
          refine lv_iconst (v := 1) hx hb dX11_hears_49 (by decide) ?_
          refine lv_iadd hx hb dX11_hears_50 ?_
          refine lv_topi (fun x_10 ex_10 => ?_)
          have hE := bd_at ex_10 hE
          try have t_x_10 := ti_add ex_10 (by omega) (by omega)
          refine va_put (D := D) (ci := 11) (v := .int x_10) (ty := .int) (C := RX11) (T := TX11) (N := 74) hx hb ha inlX11 tyX11 tyX11_ok nmX11 hown hK hP hD hS 0 mw_at0 rfl 17 (by decide) (ha _ kf_X11_271) (fun _ h9 => h9) rfl (by decide +kernel) rfl rfl (Nat.le_of_ble_eq_true rfl) dX11_hears_51 (fun H locs hP hD hS => ?_)
          have hP : va_P D vwCl (mw cI cZ h0 mq (upd mi 17 x_10) ma) H := mwP_17 hP
          have hD : va_D A (mw cI cZ h0 mq (upd mi 17 x_10) ma) := mwD_17 hD
          generalize hmi_11 : upd mi 17 x_10 = mi_11 at hP hD
          have hI : MB mi_11 ma := by rw [← hmi_11]; exact MBi_af hI (by omega) (by omega) hfl
          have hFI : ∀ k, k ∉ ([17, 18, 26, 30, 28, 27, 6, 5] : List Nat) → mi_11 k = mi0 k := fun k hk => by rw [← hmi_11]; exact (if_neg (fun e => hk (by rw [e]; decide))).trans (hFI k hk)
          have hE := bs_at hmi_11 hE
          have g4 : mi_11 4 = mi 4 := (congrFun hmi_11 4).symm
          have g10 : mi_11 10 = mi 10 := (congrFun hmi_11 10).symm
          have g11 : mi_11 11 = mi 11 := (congrFun hmi_11 11).symm
          have g18 : mi_11 18 = mi 18 := (congrFun hmi_11 18).symm
          have g19 : mi_11 19 = mi 19 := (congrFun hmi_11 19).symm
          have g32 : mi_11 32 = mi 32 := (congrFun hmi_11 32).symm
          have g17 : mi_11 17 = x_10 := (congrFun hmi_11 17).symm
          have f32 : 1 ≤ (mi_11 32).toInt := by rw [g32]; exact hfl
          have f4 := MB_flows hI
          have h17 := congrArg Int32.toInt g17
          have h18 := congrArg Int32.toInt g18
          have hA2 : DA ph cl (mi_11 4) (mi_11 10) (mi_11 11) (mi_11 17) (mi_11 18) (mi_11 19) (ma 20) (ma 40) (ma 41) := by rw [g4, g10, g11, g17, g18, g19]; exact da_first hv.1 (by omega) (by omega)
          have h19 : mi_11 19 = 0 := g19.trans hv.2
          refine lv_aload_n hx hb dX11_hears_54 rfl (lv_at hl 0 rfl) ?_
          refine lv_aload_n hx hb dX11_hears_55 rfl (lv_at hl 0 rfl) ?_
          refine va_get (D := D) (ci := 11) (v := .ref (mq 21)) (C := RX11) (T := TX11) (N := 74) hx hb ha inlX11 hown hK hP 0 mw_at0 rfl 21 (by decide) (ha _ kf_X11_48) (fun _ h9 => h9) rfl dX11_hears_56 ?_
          refine lv_aload_n hx hb dX11_hears_59 rfl (lv_at hl 0 rfl) ?_
          refine va_get (D := D) (ci := 11) (v := .int (mi_11 17)) (C := RX11) (T := TX11) (N := 74) hx hb ha inlX11 hown hK hP 0 mw_at0 rfl 17 (by decide) (ha _ kf_X11_271) (fun _ h9 => h9) rfl dX11_hears_60 ?_
          refine lv_topi (fun x_12 ex_12 => ?_)
          have hE := bd_at ex_12 hE
          have u_x_12 := congrArg Int32.toInt ex_12
          have r_x_12 := MB_ackFirst hI
          rw [← ex_12] at r_x_12
          refine lv_iconst (v := 1) hx hb dX11_hears_63 (by decide) ?_
          refine lv_isub hx hb dX11_hears_64 ?_
          refine lv_topi (fun x_13 ex_13 => ?_)
          have hE := bd_at ex_13 hE
          try have t_x_13 := ti_sub ex_13 (by omega) (by omega)
          have hin_14 : vp_in x_13 6000 := vpi_of (by omega) (by omega)
          refine va_iald hx hb hK hP 9 0 mw_at21 rfl hin_14 dX11_hears_65 ?_
          refine lv_topi (fun x_15 ex_15 => ?_)
          have hE := bd_at ex_15 hE
          have u_x_15 := congrArg Int32.toInt ex_15
          have r_x_15 := fw_ld (MB_ackFlow hI) hin_14 ex_15
          refine lv_aload_n hx hb dX11_hears_66 rfl (lv_at hl 0 rfl) ?_
          refine va_get (D := D) (ci := 11) (v := .int (mi_11 17)) (C := RX11) (T := TX11) (N := 74) hx hb ha inlX11 hown hK hP 0 mw_at0 rfl 17 (by decide) (ha _ kf_X11_271) (fun _ h9 => h9) rfl dX11_hears_67 ?_
          refine lv_topi (fun x_16 ex_16 => ?_)
          have hE := bd_at ex_16 hE
          have u_x_16 := congrArg Int32.toInt ex_16
          have r_x_16 := MB_ackFirst hI
          rw [← ex_16] at r_x_16
          refine lv_iconst (v := 1) hx hb dX11_hears_70 (by decide) ?_
          refine lv_isub hx hb dX11_hears_71 ?_
          refine lv_topi (fun x_17 ex_17 => ?_)
          have hE := bd_at ex_17 hE
          try have t_x_17 := ti_sub ex_17 (by omega) (by omega)
          have hFc := va_freeW hD hS hA
          refine va_callv (va_runV (As := [.int x_15, .int x_17]) (rest := []) ⟨hx, hb, hml, hown, ha⟩ (m_heard l D cI cJ cZ cO _ h0 mq mi_11 ma ph cl x_15 x_17 hI (by omega) (by omega) (by omega) (by omega) (by omega)) (cwV 2 ha (gaV kl_X11_280 km_X11_heard ks_X11_heard kz_X11 kd_X11_heard) rfl rfl rfl (by decide +kernel) ⟨Nat.le_of_ble_eq_true rfl, Nat.le_of_ble_eq_true rfl⟩) ⟨pw_blind, va_recv hK hP (ci := 11) (q0 := 0) rfl rfl, fun U hU hW => ⟨rfl, pw_start hU hW hP hK hD hN⟩⟩ rfl rfl hl.1 rfl (lv_room (Nat.le_of_ble_eq_true rfl)) dX11_hears_72 ⟨Nat.le_of_ble_eq_true rfl, Nat.le_of_ble_eq_true rfl⟩) hS (fun q _ h => hFc q h) hFc (fun u t H1 locs ht hvm hw hB hz1 hk1 hS => ?_)
          obtain ⟨mi_19, ma_20, ⟨hf_21, rr_, hX⟩, hP, hK1, hD1⟩ := hB
          have hE := bo_at hX hE
          rw [ht] at hP
          have hD := hD1.weaken (fun k q _ h => hFc q.1 h)
          clear hD1
          generalize H1 = H at hP hS ⊢
          refine W.widen (k := 0) (n := 0) (Nat.le_refl _) (Nat.le_refl _) ?_
          have hI := hf_21.1
          have hFI : ∀ k, k ∉ ([17, 18, 26, 30, 28, 27, 6, 5] : List Nat) → mi_19 k = mi0 k := fun k hk => (hf_21.2.1 k (fun h => hk (by revert h; exact sub_of (by decide) k))).trans (hFI k hk)
          have hFA : ∀ k, k ∉ ([20, 21, 22, 23, 24, 25, 69, 51, 50, 52, 49, 44, 45, 60, 71, 61, 53, 47, 68, 67, 64, 65, 66, 54, 31, 7, 8, 9, 59, 46, 70, 72, 58, 63, 48, 55, 56] : List Nat) → ma_20 k = ma0 k := fun k hk => (hf_21.2.2 k (fun h => hk (by revert h; exact sub_of (by decide) k))).trans (hFA k hk)
          have s17 := congrArg Int32.toInt (hf_21.2.1 17 (by decide))
          have s18 := congrArg Int32.toInt (hf_21.2.1 18 (by decide))
          refine lv_goto (tgt := 17) hx hb dX11_hears_75 (by decide) ?_
          exact ih_17 mi_19 ma_20  _ _ hP hD hS hI hFI hFA hE ⟨da_keep hA2 ((hf_21.2.1 4 (by decide))) ((hf_21.2.1 10 (by decide))) ((hf_21.2.1 11 (by decide))) ((hf_21.2.1 17 (by decide))) ((hf_21.2.1 18 (by decide))) ((hf_21.2.1 19 (by decide))) ((hf_21.2.2 20 (by decide))) ((hf_21.2.2 40 (by decide))) ((hf_21.2.2 41 (by decide))), ((hf_21.2.1 19 (by decide))).trans h19⟩ _ (lv_sub hl [0] rfl) (by omega)
  -- from the entry
  rw [hQP] at J_17
  have hE := hRES
  unfold x_hears at hE
  have hE := ax_at (⟨hI, _, _, hU⟩) hE
  refine lv_aload_n hx hb dX11_hears_0 rfl (lv_at hl 0 rfl) ?_
  refine va_get (D := D) (ci := 11) (v := .int (mi 19)) (C := RX11) (T := TX11) (N := 74) hx hb ha inlX11 hown hK hP 0 mw_at0 rfl 19 (by decide) (ha _ kf_X11_277) (fun _ h9 => h9) rfl dX11_hears_1 ?_
  refine lv_topi (fun x_22 ex_22 => ?_)
  have hE := bd_at ex_22 hE
  have u_x_22 := congrArg Int32.toInt ex_22
  refine lv_if_eq (tgt := 17) hx hb dX11_hears_4 (by decide) (fun c_23 => ?_) (fun c_23 => ?_)
  · have t_c_23 := congrArg Int32.toInt c_23
    have hE := hE.trans (if_pos c_23)
    exact J_17 7000 mi ma  _ _ hP hD hS hI hFI hFA hE ⟨hU, ex_22.symm.trans c_23⟩ _ (lv_sub hl [0] rfl) (by omega)
  · have t_c_23 := mt Int32.toInt_inj.mp c_23
    have hE := hE.trans (if_neg c_23)
    refine lv_aload_n hx hb dX11_hears_7 rfl (lv_at hl 0 rfl) ?_
    refine lv_aload_n hx hb dX11_hears_8 rfl (lv_at hl 0 rfl) ?_
    refine va_get (D := D) (ci := 11) (v := .int (mi 17)) (C := RX11) (T := TX11) (N := 74) hx hb ha inlX11 hown hK hP 0 mw_at0 rfl 17 (by decide) (ha _ kf_X11_271) (fun _ h9 => h9) rfl dX11_hears_9 ?_
    refine lv_topi (fun x_24 ex_24 => ?_)
    have hE := bd_at ex_24 hE
    have u_x_24 := congrArg Int32.toInt ex_24
    have r_x_24 := MB_ackFirst hI
    rw [← ex_24] at r_x_24
    refine lv_iconst (v := 1) hx hb dX11_hears_12 (by decide) ?_
    have hFc := va_freeW hD hS hA
    refine va_callv (va_runV (As := [.int x_24, .int 1]) (rest := []) ⟨hx, hb, hml, hown, ha⟩ (m_acksDownT l D cI cJ cZ cO _ h0 mq mi ma ph cl x_24 hI ex_24 (fun q => c_23 (ex_22.trans q)) hU) (cwV 2 ha (gaV kl_X11_274 km_X11_acksDown ks_X11_acksDown kz_X11 kd_X11_acksDown) rfl rfl rfl (by decide +kernel) ⟨Nat.le_of_ble_eq_true rfl, Nat.le_of_ble_eq_true rfl⟩) ⟨pw_blind, va_recv hK hP (ci := 11) (q0 := 0) rfl rfl, fun U hU hW => ⟨rfl, pw_start hU hW hP hK hD hN⟩⟩ rfl rfl hl.1 rfl (lv_room (Nat.le_of_ble_eq_true rfl)) dX11_hears_13 ⟨Nat.le_of_ble_eq_true rfl, Nat.le_of_ble_eq_true rfl⟩) hS (fun q _ h => hFc q h) hFc (fun u t H1 locs ht hvm hw hB hz1 hk1 hS => ?_)
    obtain ⟨mi_26, ma_27, ⟨hf_28, rr_, hX⟩, hP, hK1, hD1⟩ := hB
    have hE := bo_at hX hE
    rw [ht] at hP
    have hD := hD1.weaken (fun k q _ h => hFc q.1 h)
    clear hD1
    generalize H1 = H at hP hS ⊢
    refine W.widen (k := 0) (n := 0) (Nat.le_refl _) (Nat.le_refl _) ?_
    have hI := hf_28.1
    have hFI : ∀ k, k ∉ ([17, 18, 26, 30, 28, 27, 6, 5] : List Nat) → mi_26 k = mi0 k := fun k hk => (hf_28.2.1 k (fun h => hk (by revert h; exact sub_of (by decide) k))).trans (hFI k hk)
    have hFA : ∀ k, k ∉ ([20, 21, 22, 23, 24, 25, 69, 51, 50, 52, 49, 44, 45, 60, 71, 61, 53, 47, 68, 67, 64, 65, 66, 54, 31, 7, 8, 9, 59, 46, 70, 72, 58, 63, 48, 55, 56] : List Nat) → ma_27 k = ma0 k := fun k hk => (hf_28.2.2.1 k (fun h => hk (by revert h; exact sub_of (by decide) k))).trans (hFA k hk)
    exact W.vret hx hb hr (fun t ht hW => ⟨⟨(), rfl, trivial, ⟨mi_26, ma_27, ⟨⟨hI, fun k hk => (hFI k hk).trans (by rw [hmi0]), fun k hk => (hFA k hk).trans (by rw [hma0]), hf_28.2.2.2⟩, _, hRES.symm.trans hE⟩, by rw [ht]; exact hP, va_K.moved hW.alike hK, hD⟩⟩, hS.F ht⟩) hS.2.2 dX11_hears_16
