theorem ad_step {at_ at0 at2 : Nat → Int32} {n k v : Int32} {f : Nat} {fi : Int} (h0 : 0 ≤ n.toInt) (h1 : 0 ≤ k.toInt) (hf : (f : Int) = fi) (hn : n.toInt = k.toInt - fi) (hnk : n.toInt ≤ k.toInt) (a : ∀ j : Nat, (j : Int) < n.toInt → at_ j = at0 (f + j)) (b : ∀ j : Nat, k.toInt ≤ j → at_ j = at0 j) (ev : v = at_ k.toNatClampNeg) (e : at2 = upd at_ n.toNatClampNeg v) : (∀ j : Nat, (j : Int) < n.toInt + 1 → at2 j = at0 (f + j)) ∧ ∀ j : Nat, k.toInt + 1 ≤ j → at2 j = at0 j := by
  have cn := cl_toInt h0
  have ck := cl_toInt h1
  have q : ∀ j, at2 j = if j = n.toNatClampNeg then at_ k.toNatClampNeg else at_ j := fun j => by rw [e, ev]; rfl
  refine ⟨fun j hj => ?_, fun j hj => ?_⟩
  · rw [q j]
    by_cases w : j = n.toNatClampNeg
    · rw [if_pos w, b _ (by omega)]
      congr 1
      omega
    · rw [if_neg w]; exact a j (by omega)
  · rw [q j, if_neg (by omega)]; exact b j (by omega)
theorem ad_skip {at_ at0 : Nat → Int32} {n k : Int32} {f : Nat} {fi : Int} (h0 : 0 ≤ n.toInt) (h1 : 0 ≤ k.toInt) (hf : (f : Int) = fi) (hn : n.toInt = k.toInt - fi) (hnk : k.toInt ≤ n.toInt) (a : ∀ j : Nat, (j : Int) < n.toInt → at_ j = at0 (f + j)) (b : ∀ j : Nat, k.toInt ≤ j → at_ j = at0 j) : (∀ j : Nat, (j : Int) < n.toInt + 1 → at_ j = at0 (f + j)) ∧ ∀ j : Nat, k.toInt + 1 ≤ j → at_ j = at0 j := by
  refine ⟨fun j hj => ?_, fun j hj => b j (by omega)⟩
  rcases Int.lt_or_le (j : Int) n.toInt with w | w
  · exact a j w
  · rw [b j (by omega)]
    congr 1
    omega

set_option maxRecDepth 100000 in
def x_acksDownF_a (f : Int32) : Nat → Nat → (Nat → Int32) → (Nat → Nat → Int32) → Int32 → Int32 → Int32 → XT
  | 0, _, mi, ma, _, _, _ => (mi, ma, 0)
  | fu + 1, tg, mi, ma, i3, i4, i5 => if tg = 13 then bd (mi 18) (fun v1 => (if v1 ≤ i4 then bd (upd mi 17 (0 : Int32)) (fun m2 => bd (upd m2 18 i3) (fun m3 => (m3, ma, 0))) else (if i4 ≤ i3 then x_acksDownF_a f fu 171 mi ma i3 i4 0 else bd (ma 20 i4.toNatClampNeg) (fun v4 => bd (va_up ma 20 (upd (ma 20) i3.toNatClampNeg v4)) (fun a5 => bd (a5 21 i4.toNatClampNeg) (fun v6 => bd (va_up a5 21 (upd (a5 21) i3.toNatClampNeg v6)) (fun a7 => bd (a7 22 i4.toNatClampNeg) (fun v8 => bd (va_up a7 22 (upd (a7 22) i3.toNatClampNeg v8)) (fun a9 => bd (a9 23 i4.toNatClampNeg) (fun v10 => bd (va_up a9 23 (upd (a9 23) i3.toNatClampNeg v10)) (fun a11 => bd (a11 24 i4.toNatClampNeg) (fun v12 => bd (va_up a11 24 (upd (a11 24) i3.toNatClampNeg (vp_nar .boolean v12))) (fun a13 => x_acksDownF_a f fu 130 mi a13 i3 i4 (0 : Int32)))))))))))))) else if tg = 130 then (if (200 : Int32) ≤ i5 then x_acksDownF_a f fu 171 mi ma i3 i4 0 else bd ((200 : Int32) * i3) (fun v14 => bd (v14 + i5) (fun v15 => bd ((200 : Int32) * i4) (fun v16 => bd (v16 + i5) (fun v17 => bd (ma 25 v17.toNatClampNeg) (fun v18 => bd (va_up ma 25 (upd (ma 25) v15.toNatClampNeg (vp_nar .boolean v18))) (fun a19 => bd (i5 + 1) (fun v20 => x_acksDownF_a f fu 130 mi a19 i3 i4 v20)))))))) else bd (i3 + 1) (fun v21 => bd (i4 + 1) (fun v22 => x_acksDownF_a f fu 13 mi ma v21 v22 0))
set_option maxRecDepth 100000 in
def x_acksDownF (f : Int32) (mi : Nat → Int32) (ma : Nat → Nat → Int32) : XT := x_acksDownF_a f (((mi 18).toInt * 1000 + 1000).toNat) 13 mi ma (0 : Int32) f 0
set_option maxHeartbeats 4000000 in
set_option maxRecDepth 100000 in
theorem m_acksDownF (l : Launch) (D : va_G) (cI cJ cZ cO : ClassId) (sz : Nat) (h0 : Nat) (mq : Nat → Nat) (mi : Nat → Int32) (ma : Nat → Nat → Int32) (ph : Nat) (cl : Int) (f : Int32) (hI : MB mi ma) (hfe : f = mi 17) (hF : 1 ≤ (mi 32).toInt) (hDA : (mi 17).toInt ≤ (mi 18).toInt) : Met l yX11_acksDown (wa yX11_acksDown cX11_acksDown 6 none) ({ frames := 0, cells := 0, slots := 0, locals := 0 }) (va_Pc [.ref h0, .int f, .int 0] (pw_s D cI cJ cZ cO sz (mw cI cZ h0 mq mi ma))) (va_Qv (fun (_ : Unit) => True) (fun (_ : Unit) (t : State) => ∃ (mi2 : Nat → Int32) (ma2 : Nat → Nat → Int32), ((MB mi2 ma2 ∧ (∀ k, k ∉ ([17, 18] : List Nat) → mi2 k = mi k) ∧ (∀ k, k ∉ ([20, 21, 22, 23, 24, 25] : List Nat) → ma2 k = ma k) ∧ ((mi2 17).toInt = 0 ∧ (mi2 18).toInt = (mi 18).toInt - (mi 17).toInt ∧ ∀ j : Nat, (j : Int) < (mi2 18).toInt → ma2 20 j = ma 20 ((mi 17).toNatClampNeg + j))) ∧ mi2 = (x_acksDownF f mi ma).1 ∧ ma2 = (x_acksDownF f mi ma).2.1) ∧ pw_t D cI cJ cZ cO (va_A (mw cI cZ h0 mq mi ma) sz) (mw cI cZ h0 mq mi2 ma2) t) (va_A (mw cI cZ h0 mq mi ma) sz)) 0 0 (va_A (mw cI cZ h0 mq mi ma) sz) := by
  refine Met.ofW (cc := cX11_acksDown) (maxL := 6) (ret := none) (by decide) rfl ?_
  intro p e s m args below meth c s₁ B hml hv
  obtain ⟨rfl, hsz, hP, hK, hD0, hN⟩ := hv
  have hx := B.exec
  have hb := B.bytes
  have hr := B.returns
  have hts := atoms_spec (ws := (wa yX11_acksDown cX11_acksDown 6 none)) B.pre
  have ha : ∀ w ∈ wsL_law, w.before _ s = true := fun w h => hts w (List.mem_cons_of_mem _ h)
  have hown : s.vm.findClass RX11 = some m.cls := findClass_of_methodNamed B.named
  have hlocks := B.notSynchronized
  subst hsz
  have hD := hD0.self (sz := s.heap.size)
  generalize hAe : va_A (mw cI cZ h0 mq mi ma) s.heap.size = A at hD ⊢
  have hA : ∀ q : Nat, s.heap.size ≤ q → A q := fun q h => by rw [← hAe]; exact Or.inr h
  have hS : va_S A s.heap s.heap [] := va_S.rf
  have hP : va_P D vwCl (mw cI cZ h0 mq mi ma) s.heap := hP
  have hl := lv_entry ([.ref h0, .int f, .int 0]) (n := 6) (Nat.le_of_ble_eq_true rfl)
  rw [lg_entry_eq]
  generalize (lg_sl ([.ref h0, .int f, .int 0]) ++ List.replicate (6 - (lg_sl ([.ref h0, .int f, .int 0])).length) Slot.unset).toArray = ls at hl ⊢
  have hl : lv_has ls 6 [(0, .ref h0), (1, .int f), (2, .int 0)] := hl
  have kc_m1 := tk_m1
  have kc_0 := tk_0
  have kc_1 := tk_1
  have kc_200 := tk_200
  obtain ⟨mi0, hmi0⟩ : ∃ y, y = mi := ⟨_, rfl⟩
  obtain ⟨ma0, hma0⟩ : ∃ y, y = ma := ⟨_, rfl⟩
  have hFI : ∀ k, k ∉ ([17, 18] : List Nat) → mi k = mi0 k := fun k _ => by rw [hmi0]
  have hFA : ∀ k, k ∉ ([20, 21, 22, 23, 24, 25] : List Nat) → ma k = ma0 k := fun k _ => by rw [hma0]
  obtain ⟨QP, hQP⟩ : ∃ y : State → Prop, y = (MQ below (va_Qv (fun (_ : Unit) => True) (fun (_ : Unit) (t : State) => ∃ (mi2 : Nat → Int32) (ma2 : Nat → Nat → Int32), ((MB mi2 ma2 ∧ (∀ k, k ∉ ([17, 18] : List Nat) → mi2 k = mi k) ∧ (∀ k, k ∉ ([20, 21, 22, 23, 24, 25] : List Nat) → ma2 k = ma k) ∧ ((mi2 17).toInt = 0 ∧ (mi2 18).toInt = (mi 18).toInt - (mi 17).toInt ∧ ∀ j : Nat, (j : Int) < (mi2 18).toInt → ma2 20 j = ma 20 ((mi 17).toNatClampNeg + j))) ∧ mi2 = (x_acksDownF f mi ma).1 ∧ ma2 = (x_acksDownF f mi ma).2.1) ∧ pw_t D cI cJ cZ cO A (mw cI cZ h0 mq mi2 ma2) t) A) #[(.ref h0 : Value), (.int f : Value), (.int 0 : Value)] s 0 0 A) := ⟨_, rfl⟩
  obtain ⟨RES, hRES⟩ : ∃ y, y = (x_acksDownF f mi ma) := ⟨_, rfl⟩
  have y17 : (mi0 17).toInt = (mi 17).toInt := by rw [hmi0]
  have y18 : (mi0 18).toInt = (mi 18).toInt := by rw [hmi0]
  have yf : f.toInt = (mi 17).toInt := by rw [hfe]
  have y3 := MB_ackFirst hI
  have y4 := MB_ackEnd hI
  have JG_a : ∀ (n_a : Nat), (∀ (mi : Nat → Int32) (ma : Nat → Nat → Int32) (i3 : Int32) (i4 : Int32) (H : Heap) (locs : List Loc), va_P D vwCl (mw cI cZ h0 mq mi ma) H → va_D A (mw cI cZ h0 mq mi ma) → va_S A s.heap H locs → MB mi ma → (∀ k, k ∉ ([17, 18] : List Nat) → mi k = mi0 k) → (∀ k, k ∉ ([20, 21, 22, 23, 24, 25] : List Nat) → ma k = ma0 k) → RES = x_acksDownF_a f n_a 13 mi ma i3 i4 0 → ((mi 17 = mi0 17 ∧ mi 18 = mi0 18) ∧ 0 ≤ i3.toInt ∧ i3.toInt = i4.toInt - f.toInt ∧ f.toInt ≤ i4.toInt ∧ i4.toInt ≤ (mi0 18).toInt ∧ (∀ j : Nat, (j : Int) < i3.toInt → ma 20 j = ma0 20 (f.toNatClampNeg + j)) ∧ ∀ j : Nat, i4.toInt ≤ j → ma 20 j = ma0 20 j) → ∀ (ls : Array Slot), lv_has ls 6 [(0, .ref h0), (1, .int f), (2, .int 0), (3, .int i3), (4, .int i4)] → (((mi0 18).toInt * 1000 - i4.toInt * 1000 + 999).toNat) < n_a → W p l e ({ frames := 0, cells := 0, slots := 0, locals := 0 }) s m #[(.ref h0 : Value), (.int f : Value), (.int 0 : Value)] below meth c H locs 0 0 QP (F0 m 13 ls [])) ∧ (∀ (mi : Nat → Int32) (ma : Nat → Nat → Int32) (i3 : Int32) (i4 : Int32) (i5 : Int32) (H : Heap) (locs : List Loc), va_P D vwCl (mw cI cZ h0 mq mi ma) H → va_D A (mw cI cZ h0 mq mi ma) → va_S A s.heap H locs → MB mi ma → (∀ k, k ∉ ([17, 18] : List Nat) → mi k = mi0 k) → (∀ k, k ∉ ([20, 21, 22, 23, 24, 25] : List Nat) → ma k = ma0 k) → RES = x_acksDownF_a f n_a 130 mi ma i3 i4 i5 → (((mi 17 = mi0 17 ∧ mi 18 = mi0 18) ∧ 0 ≤ i3.toInt ∧ i3.toInt = i4.toInt - f.toInt ∧ f.toInt ≤ i4.toInt ∧ i4.toInt ≤ (mi0 18).toInt ∧ i4.toInt < (mi0 18).toInt ∧ (∀ j : Nat, (j : Int) < i3.toInt + 1 → ma 20 j = ma0 20 (f.toNatClampNeg + j)) ∧ ∀ j : Nat, i4.toInt + 1 ≤ j → ma 20 j = ma0 20 j) ∧ 0 ≤ i5.toInt ∧ i5.toInt ≤ 200 ∧ i3.toInt < i4.toInt) → ∀ (ls : Array Slot), lv_has ls 6 [(0, .ref h0), (1, .int f), (2, .int 0), (3, .int i3), (4, .int i4), (5, .int i5)] → (((mi0 18).toInt * 1000 - i4.toInt * 1000 + 300 - i5.toInt).toNat) < n_a → W p l e ({ frames := 0, cells := 0, slots := 0, locals := 0 }) s m #[(.ref h0 : Value), (.int f : Value), (.int 0 : Value)] below meth c H locs 0 0 QP (F0 m 130 ls [])) ∧ (∀ (mi : Nat → Int32) (ma : Nat → Nat → Int32) (i3 : Int32) (i4 : Int32) (H : Heap) (locs : List Loc), va_P D vwCl (mw cI cZ h0 mq mi ma) H → va_D A (mw cI cZ h0 mq mi ma) → va_S A s.heap H locs → MB mi ma → (∀ k, k ∉ ([17, 18] : List Nat) → mi k = mi0 k) → (∀ k, k ∉ ([20, 21, 22, 23, 24, 25] : List Nat) → ma k = ma0 k) → RES = x_acksDownF_a f n_a 171 mi ma i3 i4 0 → ((mi 17 = mi0 17 ∧ mi 18 = mi0 18) ∧ 0 ≤ i3.toInt ∧ i3.toInt = i4.toInt - f.toInt ∧ f.toInt ≤ i4.toInt ∧ i4.toInt ≤ (mi0 18).toInt ∧ i4.toInt < (mi0 18).toInt ∧ (∀ j : Nat, (j : Int) < i3.toInt + 1 → ma 20 j = ma0 20 (f.toNatClampNeg + j)) ∧ ∀ j : Nat, i4.toInt + 1 ≤ j → ma 20 j = ma0 20 j) → ∀ (ls : Array Slot), lv_has ls 6 [(0, .ref h0), (1, .int f), (2, .int 0), (3, .int i3), (4, .int i4)] → (((mi0 18).toInt * 1000 - i4.toInt * 1000 + 1).toNat) < n_a → W p l e ({ frames := 0, cells := 0, slots := 0, locals := 0 }) s m #[(.ref h0 : Value), (.int f : Value), (.int 0 : Value)] below meth c H locs 0 0 QP (F0 m 171 ls [])) := by
    intro n_a
    induction n_a with
    | zero => exact ⟨(by intros; exact absurd ‹_ < 0› (Nat.not_lt_zero _)), (by intros; exact absurd ‹_ < 0› (Nat.not_lt_zero _)), (by intros; exact absurd ‹_ < 0› (Nat.not_lt_zero _))⟩
    | succ n_a ih_a =>
      obtain ⟨ih_13, ih_130, ih_171⟩ := ih_a
      refine ⟨?_, ?_, ?_⟩
      · intro mi ma i3 i4 H locs hP hD hS hI hFI hFA hE hv ls hl hm
        rw [x_acksDownF_a] at hE
        have hE := hE.trans (if_pos rfl)
        have v1 := congrArg Int32.toInt hv.1.1
        have v2 := congrArg Int32.toInt hv.1.2
        have v3 := MB_ackFirst hI
        have v4 := MB_ackEnd hI
        have hv9 := hv.2.1
        have hv8 := hv.2.2.1
        have hv7 := hv.2.2.2.1
        have hv6 := hv.2.2.2.2.1
        refine lv_iload hx hb dX11_acksDown_13 (lv_at hl 4 rfl) ?_
        refine lv_aload_n hx hb dX11_acksDown_15 rfl (lv_at hl 0 rfl) ?_
        refine va_get (D := D) (ci := 11) (v := .int (mi 18)) (C := RX11) (T := TX11) (N := 74) hx hb ha inlX11 hown hK hP 0 mw_at0 rfl 18 (by decide) (ha _ kf_X11_268) (fun _ h9 => h9) rfl dX11_acksDown_16 ?_
        refine lv_topi (fun x_1 ex_1 => ?_)
        have hE := bd_at ex_1 hE
        have u_x_1 := congrArg Int32.toInt ex_1
        have r_x_1 := MB_ackEnd hI
        rw [← ex_1] at r_x_1
        refine lv_icmp_ge (tgt := 180) hx hb dX11_acksDown_19 (by decide) (fun c_2 => ?_) (fun c_2 => ?_)
        · have t_c_2 := Int32.le_iff_toInt_le.mp c_2
          have hE := hE.trans (if_pos c_2)
          refine lv_iload_n hx hb dX11_acksDown_180 rfl (lv_at hl 2 rfl) ?_
          refine lv_if_ne (tgt := 189) hx hb dX11_acksDown_181 (by decide) (fun c_3 => ?_) (fun c_3 => ?_)
          · exact absurd (by decide) c_3
          refine lv_aload_n hx hb dX11_acksDown_184 rfl (lv_at hl 0 rfl) ?_
          refine lv_iconst (v := 0) hx hb dX11_acksDown_185 (by decide) ?_
          refine va_put (D := D) (ci := 11) (v := .int 0) (ty := .int) (C := RX11) (T := TX11) (N := 74) hx hb ha inlX11 tyX11 tyX11_ok nmX11 hown hK hP hD hS 0 mw_at0 rfl 17 (by decide) (ha _ kf_X11_271) (fun _ h9 => h9) rfl (by decide +kernel) rfl rfl (Nat.le_of_ble_eq_true rfl) dX11_acksDown_186 (fun H locs hP hD hS => ?_)
          have hP : va_P D vwCl (mw cI cZ h0 mq (upd mi 17 (0 : Int32)) ma) H := mwP_17 hP
          have hD : va_D A (mw cI cZ h0 mq (upd mi 17 (0 : Int32)) ma) := mwD_17 hD
          generalize hmi_4 : upd mi 17 (0 : Int32) = mi_4 at hP hD
          have hI : MB mi_4 ma := by rw [← hmi_4]; exact MBi_af hI (by decide) (by decide) (by rw [hFI 32 (by decide), hmi0]; omega)
          have hFI : ∀ k, k ∉ ([17, 18] : List Nat) → mi_4 k = mi0 k := fun k hk => by rw [← hmi_4]; exact (if_neg (fun e => hk (by rw [e]; decide))).trans (hFI k hk)
          have hE := bs_at hmi_4 hE
          refine lv_aload_n hx hb dX11_acksDown_189 rfl (lv_at hl 0 rfl) ?_
          refine lv_iload_n hx hb dX11_acksDown_190 rfl (lv_at hl 3 rfl) ?_
          refine va_put (D := D) (ci := 11) (v := .int i3) (ty := .int) (C := RX11) (T := TX11) (N := 74) hx hb ha inlX11 tyX11 tyX11_ok nmX11 hown hK hP hD hS 0 mw_at0 rfl 18 (by decide) (ha _ kf_X11_268) (fun _ h9 => h9) rfl (by decide +kernel) rfl rfl (Nat.le_of_ble_eq_true rfl) dX11_acksDown_191 (fun H locs hP hD hS => ?_)
          have hP : va_P D vwCl (mw cI cZ h0 mq (upd mi_4 18 i3) ma) H := mwP_18 hP
          have hD : va_D A (mw cI cZ h0 mq (upd mi_4 18 i3) ma) := mwD_18 hD
          generalize hmi_5 : upd mi_4 18 i3 = mi_5 at hP hD
          have hI : MB mi_5 ma := by rw [← hmi_5]; exact MBi_ae hI (by omega) (by omega) (by rw [hFI 32 (by decide), hmi0]; omega)
          have hFI : ∀ k, k ∉ ([17, 18] : List Nat) → mi_5 k = mi0 k := fun k hk => by rw [← hmi_5]; exact (if_neg (fun e => hk (by rw [e]; decide))).trans (hFI k hk)
          have hE := bs_at hmi_5 hE
          rw [hQP]
          exact W.vret hx hb hr (fun t ht hW => ⟨⟨(), rfl, trivial, ⟨mi_5, ma, ⟨⟨hI, fun k hk => (hFI k hk).trans (by rw [hmi0]), fun k hk => (hFA k hk).trans (by rw [hma0]), ⟨by have b1 : mi_5 17 = 0 := ((show mi_5 17 = mi_4 17 from (congrFun hmi_5 17).symm)).trans (((congrFun hmi_4 17).symm)); rw [b1]; decide, by have b2 : mi_5 18 = i3 := ((congrFun hmi_5 18).symm); rw [b2, ← hmi0]; omega, fun j hj => by have b2 : mi_5 18 = i3 := ((congrFun hmi_5 18).symm); rw [b2] at hj; rw [← hmi0, ← hma0, show (mi0 17).toNatClampNeg = f.toNatClampNeg by rw [hmi0, hfe]]; exact hv.2.2.2.2.2.1 j hj⟩⟩, by rw [← hRES, hE], by rw [← hRES, hE]⟩, by rw [ht]; exact hP, va_K.moved hW.alike hK, hD⟩⟩, hS.F ht⟩) hS.2.2 dX11_acksDown_194
        · have t_c_2 := Int32.lt_iff_toInt_lt.mp (Int32.not_le.mp c_2)
          have hE := hE.trans (if_neg c_2)
          refine lv_iload_n hx hb dX11_acksDown_22 rfl (lv_at hl 2 rfl) ?_
          refine lv_if_eq (tgt := 56) hx hb dX11_acksDown_23 (by decide) (fun c_6 => ?_) (fun c_6 => ?_)
          rotate_left
          · exact absurd (by decide) c_6
          refine lv_iload_n hx hb dX11_acksDown_56 rfl (lv_at hl 3 rfl) ?_
          refine lv_iload hx hb dX11_acksDown_57 (lv_at hl 4 rfl) ?_
          refine lv_icmp_ge (tgt := 171) hx hb dX11_acksDown_59 (by decide) (fun c_7 => ?_) (fun c_7 => ?_)
          · have t_c_7 := Int32.le_iff_toInt_le.mp c_7
            have hE := hE.trans (if_pos c_7)
            exact ih_171 mi ma i3 i4 _ _ hP hD hS hI hFI hFA hE ⟨⟨hv.1.1, hv.1.2⟩, by omega, by omega, by omega, by omega, by omega, (ad_skip (n := i3) (k := i4) (fi := f.toInt) (by omega) (by omega) (cl_toInt (by omega)) (by omega) (by omega) hv.2.2.2.2.2.1 hv.2.2.2.2.2.2).1, (ad_skip (n := i3) (k := i4) (fi := f.toInt) (by omega) (by omega) (cl_toInt (by omega)) (by omega) (by omega) hv.2.2.2.2.2.1 hv.2.2.2.2.2.2).2⟩ _ (lv_sub hl [0, 1, 2, 3, 4] rfl) (by omega)
          · have t_c_7 := Int32.lt_iff_toInt_lt.mp (Int32.not_le.mp c_7)
            have hE := hE.trans (if_neg c_7)
            refine lv_aload_n hx hb dX11_acksDown_62 rfl (lv_at hl 0 rfl) ?_
            refine va_get (D := D) (ci := 11) (v := .ref (mq 20)) (C := RX11) (T := TX11) (N := 74) hx hb ha inlX11 hown hK hP 0 mw_at0 rfl 20 (by decide) (ha _ kf_X11_45) (fun _ h9 => h9) rfl dX11_acksDown_63 ?_
            refine lv_iload_n hx hb dX11_acksDown_66 rfl (lv_at hl 3 rfl) ?_
            refine lv_aload_n hx hb dX11_acksDown_67 rfl (lv_at hl 0 rfl) ?_
            refine va_get (D := D) (ci := 11) (v := .ref (mq 20)) (C := RX11) (T := TX11) (N := 74) hx hb ha inlX11 hown hK hP 0 mw_at0 rfl 20 (by decide) (ha _ kf_X11_45) (fun _ h9 => h9) rfl dX11_acksDown_68 ?_
            refine lv_iload hx hb dX11_acksDown_71 (lv_at hl 4 rfl) ?_
            have hin_8 : vp_in i4 6000 := vpi_of (by omega) (by omega)
            refine va_iald hx hb hK hP 8 0 mw_at20 rfl hin_8 dX11_acksDown_73 ?_
            refine lv_topi (fun x_9 ex_9 => ?_)
            have hE := bd_at ex_9 hE
            have u_x_9 := congrArg Int32.toInt ex_9
            have hin_10 : vp_in i3 6000 := vpi_of (by omega) (by omega)
            refine va_iast hx hb hK hP hD hS 8 0 mw_at20 rfl hin_10 dX11_acksDown_74 (fun H locs hP hD hS => ?_)
            have hP : va_P D vwCl (mw cI cZ h0 mq mi (va_up ma 20 (upd (ma 20) i3.toNatClampNeg x_9))) H := mwP_20 hP
            have hD : va_D A (mw cI cZ h0 mq mi (va_up ma 20 (upd (ma 20) i3.toNatClampNeg x_9))) := mwD_20 hD
            generalize hma_11 : va_up ma 20 (upd (ma 20) i3.toNatClampNeg x_9) = ma_11 at hP hD
            have hI : MB mi ma_11 := by rw [← hma_11]; exact MBa_ackAt hI
            have hFA : ∀ k, k ∉ ([20, 21, 22, 23, 24, 25] : List Nat) → ma_11 k = ma0 k := fun k hk => by rw [← hma_11]; exact (va_up_ne _ _ (fun e => hk (by rw [e]; decide))).trans (hFA k hk)
            have hE := bs_at hma_11 hE
            refine lv_aload_n hx hb dX11_acksDown_75 rfl (lv_at hl 0 rfl) ?_
            refine va_get (D := D) (ci := 11) (v := .ref (mq 21)) (C := RX11) (T := TX11) (N := 74) hx hb ha inlX11 hown hK hP 0 mw_at0 rfl 21 (by decide) (ha _ kf_X11_48) (fun _ h9 => h9) rfl dX11_acksDown_76 ?_
            refine lv_iload_n hx hb dX11_acksDown_79 rfl (lv_at hl 3 rfl) ?_
            refine lv_aload_n hx hb dX11_acksDown_80 rfl (lv_at hl 0 rfl) ?_
            refine va_get (D := D) (ci := 11) (v := .ref (mq 21)) (C := RX11) (T := TX11) (N := 74) hx hb ha inlX11 hown hK hP 0 mw_at0 rfl 21 (by decide) (ha _ kf_X11_48) (fun _ h9 => h9) rfl dX11_acksDown_81 ?_
            refine lv_iload hx hb dX11_acksDown_84 (lv_at hl 4 rfl) ?_
            have hin_12 : vp_in i4 6000 := vpi_of (by omega) (by omega)
            refine va_iald hx hb hK hP 9 0 mw_at21 rfl hin_12 dX11_acksDown_86 ?_
            refine lv_topi (fun x_13 ex_13 => ?_)
            have hE := bd_at ex_13 hE
            have u_x_13 := congrArg Int32.toInt ex_13
            have r_x_13 := fw_ld (MB_ackFlow hI) hin_12 ex_13
            have hin_14 : vp_in i3 6000 := vpi_of (by omega) (by omega)
            refine va_iast hx hb hK hP hD hS 9 0 mw_at21 rfl hin_14 dX11_acksDown_87 (fun H locs hP hD hS => ?_)
            have hP : va_P D vwCl (mw cI cZ h0 mq mi (va_up ma_11 21 (upd (ma_11 21) i3.toNatClampNeg x_13))) H := mwP_21 hP
            have hD : va_D A (mw cI cZ h0 mq mi (va_up ma_11 21 (upd (ma_11 21) i3.toNatClampNeg x_13))) := mwD_21 hD
            generalize hma_15 : va_up ma_11 21 (upd (ma_11 21) i3.toNatClampNeg x_13) = ma_15 at hP hD
            have hI : MB mi ma_15 := by rw [← hma_15]; exact MBa_ackFlow hI (by omega) r_x_13.2
            have hFA : ∀ k, k ∉ ([20, 21, 22, 23, 24, 25] : List Nat) → ma_15 k = ma0 k := fun k hk => by rw [← hma_15]; exact (va_up_ne _ _ (fun e => hk (by rw [e]; decide))).trans (hFA k hk)
            have hE := bs_at hma_15 hE
            refine lv_aload_n hx hb dX11_acksDown_88 rfl (lv_at hl 0 rfl) ?_
            refine va_get (D := D) (ci := 11) (v := .ref (mq 22)) (C := RX11) (T := TX11) (N := 74) hx hb ha inlX11 hown hK hP 0 mw_at0 rfl 22 (by decide) (ha _ kf_X11_51) (fun _ h9 => h9) rfl dX11_acksDown_89 ?_
            refine lv_iload_n hx hb dX11_acksDown_92 rfl (lv_at hl 3 rfl) ?_
            refine lv_aload_n hx hb dX11_acksDown_93 rfl (lv_at hl 0 rfl) ?_
            refine va_get (D := D) (ci := 11) (v := .ref (mq 22)) (C := RX11) (T := TX11) (N := 74) hx hb ha inlX11 hown hK hP 0 mw_at0 rfl 22 (by decide) (ha _ kf_X11_51) (fun _ h9 => h9) rfl dX11_acksDown_94 ?_
            refine lv_iload hx hb dX11_acksDown_97 (lv_at hl 4 rfl) ?_
            have hin_16 : vp_in i4 6000 := vpi_of (by omega) (by omega)
            refine va_iald hx hb hK hP 10 0 mw_at22 rfl hin_16 dX11_acksDown_99 ?_
            refine lv_topi (fun x_17 ex_17 => ?_)
            have hE := bd_at ex_17 hE
            have u_x_17 := congrArg Int32.toInt ex_17
            have r_x_17 := rg_ld (MB_ackNext hI) hin_16 ex_17
            have hin_18 : vp_in i3 6000 := vpi_of (by omega) (by omega)
            refine va_iast hx hb hK hP hD hS 10 0 mw_at22 rfl hin_18 dX11_acksDown_100 (fun H locs hP hD hS => ?_)
            have hP : va_P D vwCl (mw cI cZ h0 mq mi (va_up ma_15 22 (upd (ma_15 22) i3.toNatClampNeg x_17))) H := mwP_22 hP
            have hD : va_D A (mw cI cZ h0 mq mi (va_up ma_15 22 (upd (ma_15 22) i3.toNatClampNeg x_17))) := mwD_22 hD
            generalize hma_19 : va_up ma_15 22 (upd (ma_15 22) i3.toNatClampNeg x_17) = ma_19 at hP hD
            have hI : MB mi ma_19 := by rw [← hma_19]; exact MBa_ackNext hI (by omega) (by omega)
            have hFA : ∀ k, k ∉ ([20, 21, 22, 23, 24, 25] : List Nat) → ma_19 k = ma0 k := fun k hk => by rw [← hma_19]; exact (va_up_ne _ _ (fun e => hk (by rw [e]; decide))).trans (hFA k hk)
            have hE := bs_at hma_19 hE
            refine lv_aload_n hx hb dX11_acksDown_101 rfl (lv_at hl 0 rfl) ?_
            refine va_get (D := D) (ci := 11) (v := .ref (mq 23)) (C := RX11) (T := TX11) (N := 74) hx hb ha inlX11 hown hK hP 0 mw_at0 rfl 23 (by decide) (ha _ kf_X11_54) (fun _ h9 => h9) rfl dX11_acksDown_102 ?_
            refine lv_iload_n hx hb dX11_acksDown_105 rfl (lv_at hl 3 rfl) ?_
            refine lv_aload_n hx hb dX11_acksDown_106 rfl (lv_at hl 0 rfl) ?_
            refine va_get (D := D) (ci := 11) (v := .ref (mq 23)) (C := RX11) (T := TX11) (N := 74) hx hb ha inlX11 hown hK hP 0 mw_at0 rfl 23 (by decide) (ha _ kf_X11_54) (fun _ h9 => h9) rfl dX11_acksDown_107 ?_
            refine lv_iload hx hb dX11_acksDown_110 (lv_at hl 4 rfl) ?_
            have hin_20 : vp_in i4 6000 := vpi_of (by omega) (by omega)
            refine va_iald hx hb hK hP 11 0 mw_at23 rfl hin_20 dX11_acksDown_112 ?_
            refine lv_topi (fun x_21 ex_21 => ?_)
            have hE := bd_at ex_21 hE
            have u_x_21 := congrArg Int32.toInt ex_21
            have r_x_21 := rg_ld (MB_ackWindow hI) hin_20 ex_21
            have hin_22 : vp_in i3 6000 := vpi_of (by omega) (by omega)
            refine va_iast hx hb hK hP hD hS 11 0 mw_at23 rfl hin_22 dX11_acksDown_113 (fun H locs hP hD hS => ?_)
            have hP : va_P D vwCl (mw cI cZ h0 mq mi (va_up ma_19 23 (upd (ma_19 23) i3.toNatClampNeg x_21))) H := mwP_23 hP
            have hD : va_D A (mw cI cZ h0 mq mi (va_up ma_19 23 (upd (ma_19 23) i3.toNatClampNeg x_21))) := mwD_23 hD
            generalize hma_23 : va_up ma_19 23 (upd (ma_19 23) i3.toNatClampNeg x_21) = ma_23 at hP hD
            have hI : MB mi ma_23 := by rw [← hma_23]; exact MBa_ackWindow hI (by omega) (by omega)
            have hFA : ∀ k, k ∉ ([20, 21, 22, 23, 24, 25] : List Nat) → ma_23 k = ma0 k := fun k hk => by rw [← hma_23]; exact (va_up_ne _ _ (fun e => hk (by rw [e]; decide))).trans (hFA k hk)
            have hE := bs_at hma_23 hE
            refine lv_aload_n hx hb dX11_acksDown_114 rfl (lv_at hl 0 rfl) ?_
            refine va_get (D := D) (ci := 11) (v := .ref (mq 24)) (C := RX11) (T := TX11) (N := 74) hx hb ha inlX11 hown hK hP 0 mw_at0 rfl 24 (by decide) (ha _ kf_X11_57) (fun _ h9 => h9) rfl dX11_acksDown_115 ?_
            refine lv_iload_n hx hb dX11_acksDown_118 rfl (lv_at hl 3 rfl) ?_
            refine lv_aload_n hx hb dX11_acksDown_119 rfl (lv_at hl 0 rfl) ?_
            refine va_get (D := D) (ci := 11) (v := .ref (mq 24)) (C := RX11) (T := TX11) (N := 74) hx hb ha inlX11 hown hK hP 0 mw_at0 rfl 24 (by decide) (ha _ kf_X11_57) (fun _ h9 => h9) rfl dX11_acksDown_120 ?_
            refine lv_iload hx hb dX11_acksDown_123 (lv_at hl 4 rfl) ?_
            have hin_24 : vp_in i4 6000 := vpi_of (by omega) (by omega)
            refine va_zald hx hb hK hP 12 2 mw_at24 rfl hin_24 dX11_acksDown_125 ?_
            refine lv_topi (fun x_25 ex_25 => ?_)
            have hE := bd_at ex_25 hE
            have u_x_25 := congrArg Int32.toInt ex_25
            have hin_26 : vp_in i3 6000 := vpi_of (by omega) (by omega)
            refine va_zast hx hb hK hP hD hS 12 2 mw_at24 rfl hin_26 dX11_acksDown_126 (fun H locs hP hD hS => ?_)
            have hP : va_P D vwCl (mw cI cZ h0 mq mi (va_up ma_23 24 (upd (ma_23 24) i3.toNatClampNeg (vp_nar .boolean x_25)))) H := mwP_24 hP
            have hD : va_D A (mw cI cZ h0 mq mi (va_up ma_23 24 (upd (ma_23 24) i3.toNatClampNeg (vp_nar .boolean x_25)))) := mwD_24 hD
            generalize hma_27 : va_up ma_23 24 (upd (ma_23 24) i3.toNatClampNeg (vp_nar .boolean x_25)) = ma_27 at hP hD
            have hI : MB mi ma_27 := by rw [← hma_27]; exact MBa_ackPlain hI
            have hFA : ∀ k, k ∉ ([20, 21, 22, 23, 24, 25] : List Nat) → ma_27 k = ma0 k := fun k hk => by rw [← hma_27]; exact (va_up_ne _ _ (fun e => hk (by rw [e]; decide))).trans (hFA k hk)
            have hE := bs_at hma_27 hE
            refine lv_iconst (v := 0) hx hb dX11_acksDown_127 (by decide) ?_
            refine lv_istore (lv' := [(5, .int 0), (0, .ref h0), (1, .int f), (2, .int 0), (3, .int i3), (4, .int i4)]) hx hb dX11_acksDown_128 hl (by decide) rfl (fun ls hl => ?_)
            have hst := ad_step (n := i3) (k := i4) (v := x_9) (at2 := ma_27 20) (fi := f.toInt) (by omega) (by omega) (cl_toInt (by omega)) (by omega) (by omega) hv.2.2.2.2.2.1 hv.2.2.2.2.2.2 ex_9 (((mu_ne (k := 24) (j := 20) hma_27 (by decide))).trans (((mu_ne (k := 23) (j := 20) hma_23 (by decide))).trans (((mu_ne (k := 22) (j := 20) hma_19 (by decide))).trans (((mu_ne (k := 21) (j := 20) hma_15 (by decide))).trans ((mu_eq (k := 20) hma_11))))))
            exact ih_130 mi ma_27 i3 i4 (0 : Int32) _ _ hP hD hS hI hFI hFA hE ⟨⟨⟨hv.1.1, hv.1.2⟩, by omega, by omega, by omega, by omega, by omega, hst.1, hst.2⟩, by omega, by omega, by omega⟩ _ (lv_sub hl [1, 2, 3, 4, 5, 0] rfl) (by omega)
      · intro mi ma i3 i4 i5 H locs hP hD hS hI hFI hFA hE hv ls hl hm
        rw [x_acksDownF_a] at hE
        have hE := hE.trans (if_neg (by decide))
        have hE := hE.trans (if_pos rfl)
        have v1 := congrArg Int32.toInt hv.1.1.1
        have v2 := congrArg Int32.toInt hv.1.1.2
        have v3 := MB_ackFirst hI
        have v4 := MB_ackEnd hI
        have hv9 := hv.1.2.1
        have hv8 := hv.1.2.2.1
        have hv7 := hv.1.2.2.2.1
        have hv6 := hv.1.2.2.2.2.1
        have hv5 := hv.1.2.2.2.2.2.1
        have hv4 := hv.2
        refine lv_iload hx hb dX11_acksDown_130 (lv_at hl 5 rfl) ?_
        refine lv_sipush (v := 200) hx hb dX11_acksDown_132 (by decide) ?_
        refine lv_icmp_ge (tgt := 171) hx hb dX11_acksDown_135 (by decide) (fun c_28 => ?_) (fun c_28 => ?_)
        · have t_c_28 := Int32.le_iff_toInt_le.mp c_28
          have hE := hE.trans (if_pos c_28)
          exact ih_171 mi ma i3 i4 _ _ hP hD hS hI hFI hFA hE hv.1 _ (lv_sub hl [0, 1, 2, 3, 4] rfl) (by omega)
        · have t_c_28 := Int32.lt_iff_toInt_lt.mp (Int32.not_le.mp c_28)
          have hE := hE.trans (if_neg c_28)
          refine lv_aload_n hx hb dX11_acksDown_138 rfl (lv_at hl 0 rfl) ?_
          refine va_get (D := D) (ci := 11) (v := .ref (mq 25)) (C := RX11) (T := TX11) (N := 74) hx hb ha inlX11 hown hK hP 0 mw_at0 rfl 25 (by decide) (ha _ kf_X11_61) (fun _ h9 => h9) rfl dX11_acksDown_139 ?_
          refine lv_sipush (v := 200) hx hb dX11_acksDown_142 (by decide) ?_
          refine lv_iload_n hx hb dX11_acksDown_145 rfl (lv_at hl 3 rfl) ?_
          refine lv_imul hx hb dX11_acksDown_146 ?_
          refine lv_topi (fun x_29 ex_29 => ?_)
          have hE := bd_at ex_29 hE
          try have t_x_29 := ti_mulc (k := 200) ex_29 tk_200 (by omega) (by omega)
          refine lv_iload hx hb dX11_acksDown_147 (lv_at hl 5 rfl) ?_
          refine lv_iadd hx hb dX11_acksDown_149 ?_
          refine lv_topi (fun x_30 ex_30 => ?_)
          have hE := bd_at ex_30 hE
          try have t_x_30 := ti_add ex_30 (by omega) (by omega)
          refine lv_aload_n hx hb dX11_acksDown_150 rfl (lv_at hl 0 rfl) ?_
          refine va_get (D := D) (ci := 11) (v := .ref (mq 25)) (C := RX11) (T := TX11) (N := 74) hx hb ha inlX11 hown hK hP 0 mw_at0 rfl 25 (by decide) (ha _ kf_X11_61) (fun _ h9 => h9) rfl dX11_acksDown_151 ?_
          refine lv_sipush (v := 200) hx hb dX11_acksDown_154 (by decide) ?_
          refine lv_iload hx hb dX11_acksDown_157 (lv_at hl 4 rfl) ?_
          refine lv_imul hx hb dX11_acksDown_159 ?_
          refine lv_topi (fun x_31 ex_31 => ?_)
          have hE := bd_at ex_31 hE
          try have t_x_31 := ti_mulc (k := 200) ex_31 tk_200 (by omega) (by omega)
          refine lv_iload hx hb dX11_acksDown_160 (lv_at hl 5 rfl) ?_
          refine lv_iadd hx hb dX11_acksDown_162 ?_
          refine lv_topi (fun x_32 ex_32 => ?_)
          have hE := bd_at ex_32 hE
          try have t_x_32 := ti_add ex_32 (by omega) (by omega)
          have hin_33 : vp_in x_32 1200000 := vpi_of (by omega) (by omega)
          refine va_zald hx hb hK hP 13 2 mw_at25 rfl hin_33 dX11_acksDown_163 ?_
          refine lv_topi (fun x_34 ex_34 => ?_)
          have hE := bd_at ex_34 hE
          have u_x_34 := congrArg Int32.toInt ex_34
          have hin_35 : vp_in x_30 1200000 := vpi_of (by omega) (by omega)
          refine va_zast hx hb hK hP hD hS 13 2 mw_at25 rfl hin_35 dX11_acksDown_164 (fun H locs hP hD hS => ?_)
          have hP : va_P D vwCl (mw cI cZ h0 mq mi (va_up ma 25 (upd (ma 25) x_30.toNatClampNeg (vp_nar .boolean x_34)))) H := mwP_25 hP
          have hD : va_D A (mw cI cZ h0 mq mi (va_up ma 25 (upd (ma 25) x_30.toNatClampNeg (vp_nar .boolean x_34)))) := mwD_25 hD
          generalize hma_36 : va_up ma 25 (upd (ma 25) x_30.toNatClampNeg (vp_nar .boolean x_34)) = ma_36 at hP hD
          have hI : MB mi ma_36 := by rw [← hma_36]; exact MBa_ackBoard hI
          have hFA : ∀ k, k ∉ ([20, 21, 22, 23, 24, 25] : List Nat) → ma_36 k = ma0 k := fun k hk => by rw [← hma_36]; exact (va_up_ne _ _ (fun e => hk (by rw [e]; decide))).trans (hFA k hk)
          have hE := bs_at hma_36 hE
          obtain ⟨x_37, ex_37⟩ : ∃ y : Int32, y = i5 + 1 := ⟨_, rfl⟩
          have hE := bd_at ex_37 hE
          refine lv_iinc (v := x_37) (lv' := [(5, .int x_37), (0, .ref h0), (1, .int f), (2, .int 0), (3, .int i3), (4, .int i4)]) hx hb dX11_acksDown_165 hl (k := 5) rfl (by rw [ex_37]; rfl) (by decide) rfl (fun ls hl => ?_)
          try have t_x_37 := ti_add ex_37 (by omega) (by omega)
          refine lv_goto (tgt := 130) hx hb dX11_acksDown_168 (by decide) ?_
          exact ih_130 mi ma_36 i3 i4 x_37 _ _ hP hD hS hI hFI hFA hE ⟨⟨hv.1.1, by omega, by omega, by omega, by omega, by omega, fun j hj => (congrFun ((mu_ne (k := 25) (j := 20) hma_36 (by decide))) j).trans (hv.1.2.2.2.2.2.2.1 j hj), fun j hj => (congrFun ((mu_ne (k := 25) (j := 20) hma_36 (by decide))) j).trans (hv.1.2.2.2.2.2.2.2 j hj)⟩, by omega, by omega, by omega⟩ _ (lv_sub hl [1, 2, 3, 4, 5, 0] rfl) (by omega)
      · intro mi ma i3 i4 H locs hP hD hS hI hFI hFA hE hv ls hl hm
        rw [x_acksDownF_a] at hE
        have hE := hE.trans (if_neg (by decide))
        have hE := hE.trans (if_neg (by decide))
        have v1 := congrArg Int32.toInt hv.1.1
        have v2 := congrArg Int32.toInt hv.1.2
        have v3 := MB_ackFirst hI
        have v4 := MB_ackEnd hI
        have hv9 := hv.2.1
        have hv8 := hv.2.2.1
        have hv7 := hv.2.2.2.1
        have hv6 := hv.2.2.2.2.1
        have hv5 := hv.2.2.2.2.2.1
        obtain ⟨x_38, ex_38⟩ : ∃ y : Int32, y = i3 + 1 := ⟨_, rfl⟩
        have hE := bd_at ex_38 hE
        refine lv_iinc (v := x_38) (lv' := [(3, .int x_38), (0, .ref h0), (1, .int f), (2, .int 0), (4, .int i4)]) hx hb dX11_acksDown_171 hl (k := 3) rfl (by rw [ex_38]; rfl) (by decide) rfl (fun ls hl => ?_)
        try have t_x_38 := ti_add ex_38 (by omega) (by omega)
        obtain ⟨x_39, ex_39⟩ : ∃ y : Int32, y = i4 + 1 := ⟨_, rfl⟩
        have hE := bd_at ex_39 hE
        refine lv_iinc (v := x_39) (lv' := [(4, .int x_39), (3, .int x_38), (0, .ref h0), (1, .int f), (2, .int 0)]) hx hb dX11_acksDown_174 hl (k := 4) rfl (by rw [ex_39]; rfl) (by decide) rfl (fun ls hl => ?_)
        try have t_x_39 := ti_add ex_39 (by omega) (by omega)
        refine lv_goto (tgt := 13) hx hb dX11_acksDown_177 (by decide) ?_
        exact ih_13 mi ma x_38 x_39 _ _ hP hD hS hI hFI hFA hE ⟨⟨hv.1.1, hv.1.2⟩, by omega, by omega, by omega, by omega, fun j hj => hv.2.2.2.2.2.2.1 j (by omega), fun j hj => hv.2.2.2.2.2.2.2 j (by omega)⟩ _ (lv_sub hl [2, 3, 4, 1, 0] rfl) (by omega)
  -- from the entry
  rw [hQP] at JG_a
  have hE := hRES
  unfold x_acksDownF at hE
  refine lv_iload_n hx hb dX11_acksDown_0 rfl (lv_at hl 2 rfl) ?_
  refine lv_if_eq (tgt := 8) hx hb dX11_acksDown_1 (by decide) (fun c_40 => ?_) (fun c_40 => ?_)
  rotate_left
  · exact absurd (by decide) c_40
  refine lv_iconst (v := 0) hx hb dX11_acksDown_8 (by decide) ?_
  refine lv_istore_n (lv' := [(3, .int 0), (0, .ref h0), (1, .int f), (2, .int 0)]) hx hb dX11_acksDown_9 rfl hl (by decide) rfl (fun ls hl => ?_)
  refine lv_iload_n hx hb dX11_acksDown_10 rfl (lv_at hl 2 rfl) ?_
  refine lv_istore (lv' := [(4, .int f), (3, .int 0), (0, .ref h0), (1, .int f), (2, .int 0)]) hx hb dX11_acksDown_11 hl (by decide) rfl (fun ls hl => ?_)
  exact (JG_a ((mi0 18).toInt * 1000 + 1000).toNat).1 mi ma (0 : Int32) f _ _ hP hD hS hI hFI hFA (by rw [hmi0]; exact hE) ⟨⟨by rw [hmi0], by rw [hmi0]⟩, by omega, by omega, by omega, by omega, fun j hj => by omega, fun j _ => by rw [hma0]⟩ _ (lv_sub hl [2, 3, 4, 1, 0] rfl) (by omega)
