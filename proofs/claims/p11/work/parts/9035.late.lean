set_option maxRecDepth 100000 in
def xc_tellWindow (ov : Nat → Int32) (ga : List A6) (n0 : Int32) (w0 : Int32) (rv : Nat → Int32) (f : Nat → Int64) (n1 : Int32) : (Nat → Int32) × (Nat → Int64) × (List A6) := bd (rv 10) (fun v1 => (if v1 = (0 : Int32) then (rv, f, ga) else bd (upd rv 10 (0 : Int32)) (fun rv => bd (xc_answer ov ga n0 w0 rv f (1 : Int32) n1) (fun t2 => bd (t2.1) (fun rv => bd (t2.2.1) (fun f => bd (t2.2.2) (fun ga => (rv, f, ga))))))))
set_option maxHeartbeats 4000000 in
set_option maxRecDepth 100000 in
theorem s_tellWindow (l : Launch) (D : va_G) (cI cJ cZ cO : ClassId) (Hh : Heap) (r0 r1 r2 r3 r4 r5 : Nat) (ov : Nat → Int32) (ol : Option Nat) (cf cl : Nat → Option Nat) (zn : Nat → Int32) (xl : Nat → List Nat) (tag : Nat → Nat) (L : List Nat) (kd : Nat → Bool) (pi : Nat → Nat → Int32) (bd : Nat → Nat) (af : Nat → Option Nat) (bo : Nat → Nat → Int64) (go : Option S4) (gq : List S3) (gw : List S4) (ga : List A6) (h0 h1 h2 : Nat) (n0 w0 : Int32) (rv : Nat → Int32) (f : Nat → Int64) (n1 : Int32) (hR : RI L kd af tag cf cl xl ol) (hPB : PB L kd pi bd) (hZ : ZN zn xl) (hG : GG xl pi bd bo ol go gq gw ga) (hJ : JB L kd bd) (hS2 : Srt (dz pi (xl 2))) : Met l yX6_tellWindow (wa yX6_tellWindow cX6_tellWindow 3 none) ({ frames := 4, cells := 2, slots := 11, locals := 90 }) (va_Pc [.ref h0, .ref r0, .int n1] (pw_h D cI cJ cZ cO Hh ([(r0, rdC ov (va_rf ol) r1 r2 r3 r4 r5), (r1, chC cf cl zn 0), (r2, chC cf cl zn 1), (r3, chC cf cl zn 2), (r4, chC cf cl zn 3), (h0, rcC n0 rv w0 h1), (h1, mkC h2), (h2, .inl (cJ, 4, .inr (.inl f)))] ++ va_pl L (pf cJ kd pi bd af bo)))) (va_Qv (fun (_ : Unit) => True) (fun (_ : Unit) (t : State) => ∃ (rv2 : Nat → Int32) (cf2 cl2 : Nat → Option Nat) (zn2 : Nat → Int32) (xl2 : Nat → List Nat) (tag2 : Nat → Nat) (f2 : Nat → Int64) (L2 : List Nat) (kd2 : Nat → Bool) (pi2 : Nat → Nat → Int32) (bd2 : Nat → Nat) (af2 : Nat → Option Nat) (bo2 : Nat → Nat → Int64) (b2 : Nat) (ga2 : List A6) (ad2 : List Int32), ((RI L2 kd2 af2 tag2 cf2 cl2 xl2 ol ∧ PB L2 kd2 pi2 bd2 ∧ ZN zn2 xl2 ∧ gr Hh t.heap b2 ∧ b2 ≤ 1 ∧ (ad2 = [] ∨ ad2 = [n1 + ov 3]) ∧ QQ L kd tag xl pi ol L2 kd2 tag2 xl2 pi2 ol [] ad2 b2 0) ∧ (GG xl2 pi2 bd2 bo2 ol go gq gw ga2 ∧ JB L2 kd2 bd2) ∧ rv2 = (xc_tellWindow ov ga n0 w0 rv f n1).1 ∧ f2 = (xc_tellWindow ov ga n0 w0 rv f n1).2.1 ∧ ga2 = (xc_tellWindow ov ga n0 w0 rv f n1).2.2) ∧ pw_t D cI cJ cZ cO (va_A ([(r0, rdC ov (va_rf ol) r1 r2 r3 r4 r5), (r1, chC cf cl zn 0), (r2, chC cf cl zn 1), (r3, chC cf cl zn 2), (r4, chC cf cl zn 3), (h0, rcC n0 rv w0 h1), (h1, mkC h2), (h2, .inl (cJ, 4, .inr (.inl f)))] ++ va_pl L (pf cJ kd pi bd af bo)) Hh.size) ([(r0, rdC ov (va_rf ol) r1 r2 r3 r4 r5), (r1, chC cf2 cl2 zn2 0), (r2, chC cf2 cl2 zn2 1), (r3, chC cf2 cl2 zn2 2), (r4, chC cf2 cl2 zn2 3), (h0, rcC n0 rv2 w0 h1), (h1, mkC h2), (h2, .inl (cJ, 4, .inr (.inl f2)))] ++ va_pl L2 (pf cJ kd2 pi2 bd2 af2 bo2)) t) (va_A ([(r0, rdC ov (va_rf ol) r1 r2 r3 r4 r5), (r1, chC cf cl zn 0), (r2, chC cf cl zn 1), (r3, chC cf cl zn 2), (r4, chC cf cl zn 3), (h0, rcC n0 rv w0 h1), (h1, mkC h2), (h2, .inl (cJ, 4, .inr (.inl f)))] ++ va_pl L (pf cJ kd pi bd af bo)) Hh.size)) 2 11 (va_A ([(r0, rdC ov (va_rf ol) r1 r2 r3 r4 r5), (r1, chC cf cl zn 0), (r2, chC cf cl zn 1), (r3, chC cf cl zn 2), (r4, chC cf cl zn 3), (h0, rcC n0 rv w0 h1), (h1, mkC h2), (h2, .inl (cJ, 4, .inr (.inl f)))] ++ va_pl L (pf cJ kd pi bd af bo)) Hh.size) := by
  refine Met.ofW (cc := cX6_tellWindow) (maxL := 3) (ret := none) (by decide) rfl ?_
  intro p e s m args below meth c s₁ B hml hv
  obtain ⟨rfl, hsz, hP, hK, hD0, hN⟩ := hv
  have hx := B.exec
  have hb := B.bytes
  have hr := B.returns
  have hts := atoms_spec (ws := (wa yX6_tellWindow cX6_tellWindow 3 none)) B.pre
  have ha : ∀ w ∈ wsL_law, w.before _ s = true := fun w h => hts w (List.mem_cons_of_mem _ h)
  have hown : s.vm.findClass RX6 = some m.cls := findClass_of_methodNamed B.named
  have hlocks := B.notSynchronized
  subst hsz
  have hD := hD0.self (sz := s.heap.size)
  generalize hAe : va_A ([(r0, rdC ov (va_rf ol) r1 r2 r3 r4 r5), (r1, chC cf cl zn 0), (r2, chC cf cl zn 1), (r3, chC cf cl zn 2), (r4, chC cf cl zn 3), (h0, rcC n0 rv w0 h1), (h1, mkC h2), (h2, .inl (cJ, 4, .inr (.inl f)))] ++ va_pl L (pf cJ kd pi bd af bo)) s.heap.size = A at hD ⊢
  have hA : ∀ q : Nat, s.heap.size ≤ q → A q := fun q h => by rw [← hAe]; exact Or.inr h
  have hS : va_S A s.heap s.heap [] := va_S.rf
  have hP : va_P D vwCl ([(r0, rdC ov (va_rf ol) r1 r2 r3 r4 r5), (r1, chC cf cl zn 0), (r2, chC cf cl zn 1), (r3, chC cf cl zn 2), (r4, chC cf cl zn 3), (h0, rcC n0 rv w0 h1), (h1, mkC h2), (h2, .inl (cJ, 4, .inr (.inl f)))] ++ va_pl L (pf cJ kd pi bd af bo)) s.heap := hP
  have hl := lv_entry ([.ref h0, .ref r0, .int n1]) (n := 3) (Nat.le_of_ble_eq_true rfl)
  rw [lg_entry_eq]
  generalize (lg_sl ([.ref h0, .ref r0, .int n1]) ++ List.replicate (3 - (lg_sl ([.ref h0, .ref r0, .int n1])).length) Slot.unset).toArray = ls at hl ⊢
  have hl : lv_has ls 3 [(0, .ref h0), (1, .ref r0), (2, .int n1)] := hl
  obtain ⟨QP, hQP⟩ : ∃ y : State → Prop, y = (MQ below (va_Qv (fun (_ : Unit) => True) (fun (_ : Unit) (t : State) => ∃ (rv2 : Nat → Int32) (cf2 cl2 : Nat → Option Nat) (zn2 : Nat → Int32) (xl2 : Nat → List Nat) (tag2 : Nat → Nat) (f2 : Nat → Int64) (L2 : List Nat) (kd2 : Nat → Bool) (pi2 : Nat → Nat → Int32) (bd2 : Nat → Nat) (af2 : Nat → Option Nat) (bo2 : Nat → Nat → Int64) (b2 : Nat) (ga2 : List A6) (ad2 : List Int32), ((RI L2 kd2 af2 tag2 cf2 cl2 xl2 ol ∧ PB L2 kd2 pi2 bd2 ∧ ZN zn2 xl2 ∧ gr s.heap t.heap b2 ∧ b2 ≤ 1 ∧ (ad2 = [] ∨ ad2 = [n1 + ov 3]) ∧ QQ L kd tag xl pi ol L2 kd2 tag2 xl2 pi2 ol [] ad2 b2 0) ∧ (GG xl2 pi2 bd2 bo2 ol go gq gw ga2 ∧ JB L2 kd2 bd2) ∧ rv2 = (xc_tellWindow ov ga n0 w0 rv f n1).1 ∧ f2 = (xc_tellWindow ov ga n0 w0 rv f n1).2.1 ∧ ga2 = (xc_tellWindow ov ga n0 w0 rv f n1).2.2) ∧ pw_t D cI cJ cZ cO A ([(r0, rdC ov (va_rf ol) r1 r2 r3 r4 r5), (r1, chC cf2 cl2 zn2 0), (r2, chC cf2 cl2 zn2 1), (r3, chC cf2 cl2 zn2 2), (r4, chC cf2 cl2 zn2 3), (h0, rcC n0 rv2 w0 h1), (h1, mkC h2), (h2, .inl (cJ, 4, .inr (.inl f2)))] ++ va_pl L2 (pf cJ kd2 pi2 bd2 af2 bo2)) t) A) #[(.ref h0 : Value), (.ref r0 : Value), (.int n1 : Value)] s 2 11 A) := ⟨_, rfl⟩
  obtain ⟨RES, hRES⟩ : ∃ y, y = (xc_tellWindow ov ga n0 w0 rv f n1) := ⟨_, rfl⟩
  have hQ : QQ L kd tag xl pi ol L kd tag xl pi ol [] [] 0 0 := QQ_rf
  -- from the entry
  have hE := hRES
  unfold xc_tellWindow at hE
  refine lv_aload_n hx hb dX6_tellWindow_0 rfl (lv_at hl 0 rfl) ?_
  refine va_get (D := D) (ci := 6) (v := .int (rv 10)) (C := RX6) (T := TX6) (N := 11) hx hb ha inlX6 hown hK hP 5 rfl rfl 10 (by decide) (ha _ kf_X6_32) (fun _ h9 => h9) rfl dX6_tellWindow_1 ?_
  refine lv_topi (fun x_21 ex_21 => ?_)
  have hE := bd_at ex_21 hE
  refine lv_if_eq (tgt := 19) hx hb dX6_tellWindow_4 (by decide) (fun c_22 => ?_) (fun c_22 => ?_)
  · have hE := hE.trans (if_pos c_22)
    refine W.know2 (fun hk1 hk2 => ?_)
    have hg0 : gr s.heap _ 0 := ⟨hk1, hk2⟩
    refine W.widen (k := 2) (n := 11) (Nat.le_of_ble_eq_true rfl) (Nat.le_of_ble_eq_true rfl) ?_
    have hP9 : va_P D vwCl ([(r0, rdC ov (va_rf ol) r1 r2 r3 r4 r5), (r1, chC cf cl zn 0), (r2, chC cf cl zn 1), (r3, chC cf cl zn 2), (r4, chC cf cl zn 3), (h0, rcC n0 rv w0 h1), (h1, mkC h2), (h2, .inl (cJ, 4, .inr (.inl f)))] ++ va_pl L (pf cJ kd pi bd af bo)) _ := hP
    have hD9 : va_D A ([(r0, rdC ov (va_rf ol) r1 r2 r3 r4 r5), (r1, chC cf cl zn 0), (r2, chC cf cl zn 1), (r3, chC cf cl zn 2), (r4, chC cf cl zn 3), (h0, rcC n0 rv w0 h1), (h1, mkC h2), (h2, .inl (cJ, 4, .inr (.inl f)))] ++ va_pl L (pf cJ kd pi bd af bo)) := hD
    exact W.vret hx hb hr (fun t ht hW => ⟨⟨(), rfl, trivial, ⟨rv, cf, cl, zn, xl, tag, f, L, kd, pi, bd, af, bo, 0, ga, [], ⟨⟨hR, hPB, hZ, by rw [ht]; exact hg0, by omega, Or.inl rfl, hQ⟩, ⟨hG, hJ⟩, (by rw [← hRES, hE]), (by rw [← hRES, hE]), (by rw [← hRES, hE])⟩, by rw [ht]; exact hP9, va_K.moved hW.alike hK, hD9⟩⟩, hS.F ht⟩) hS.2.2 dX6_tellWindow_19
  · have hE := hE.trans (if_neg c_22)
    refine lv_aload_n hx hb dX6_tellWindow_7 rfl (lv_at hl 0 rfl) ?_
    refine lv_iconst (v := 0) hx hb dX6_tellWindow_8 (by decide) ?_
    refine va_put (D := D) (ci := 6) (v := .int 0) (ty := .boolean) (C := RX6) (T := TX6) (N := 11) hx hb ha inlX6 tyX6 tyX6_ok nmX6 hown hK hP hD hS 5 rfl rfl 10 (by decide) (ha _ kf_X6_32) (fun _ h9 => h9) rfl (by decide +kernel) rfl rfl (Nat.le_of_ble_eq_true rfl) dX6_tellWindow_9 (fun H locs hP hD hS => ?_)
    have hP : va_P D vwCl ([(r0, rdC ov (va_rf ol) r1 r2 r3 r4 r5), (r1, chC cf cl zn 0), (r2, chC cf cl zn 1), (r3, chC cf cl zn 2), (r4, chC cf cl zn 3), (h0, rcC n0 (upd rv 10 0) w0 h1), (h1, mkC h2), (h2, .inl (cJ, 4, .inr (.inl f)))] ++ va_pl L (pf cJ kd pi bd af bo)) H := hP
    have hD : va_D A ([(r0, rdC ov (va_rf ol) r1 r2 r3 r4 r5), (r1, chC cf cl zn 0), (r2, chC cf cl zn 1), (r3, chC cf cl zn 2), (r4, chC cf cl zn 3), (h0, rcC n0 (upd rv 10 0) w0 h1), (h1, mkC h2), (h2, .inl (cJ, 4, .inr (.inl f)))] ++ va_pl L (pf cJ kd pi bd af bo)) := hD
    generalize hg_23 : upd rv 10 0 = rv at hP hD
    have hE := bs_at hg_23 hE
    refine lv_aload_n hx hb dX6_tellWindow_12 rfl (lv_at hl 0 rfl) ?_
    refine lv_aload_n hx hb dX6_tellWindow_13 rfl (lv_at hl 1 rfl) ?_
    refine lv_iconst (v := 1) hx hb dX6_tellWindow_14 (by decide) ?_
    refine lv_iload_n hx hb dX6_tellWindow_15 rfl (lv_at hl 2 rfl) ?_
    have hPc := hP.part (X := [(r0, rdC ov (va_rf ol) r1 r2 r3 r4 r5), (r1, chC cf cl zn 0), (r2, chC cf cl zn 1), (r3, chC cf cl zn 2), (r4, chC cf cl zn 3), (h0, rcC n0 rv w0 h1), (h1, mkC h2), (h2, .inl (cJ, 4, .inr (.inl f)))]) (cx := [(r0, rdC ov (va_rf ol) r1 r2 r3 r4 r5), (r1, chC cf cl zn 0), (r2, chC cf cl zn 1), (r3, chC cf cl zn 2), (r4, chC cf cl zn 3), (h0, rcC n0 rv w0 h1), (h1, mkC h2), (h2, .inl (cJ, 4, .inr (.inl f)))]) (pl := va_pl L (pf cJ kd pi bd af bo)) [0, 1, 2, 3, 4, 5, 6, 7] rfl
    have hDc := hD.part (X := [(r0, rdC ov (va_rf ol) r1 r2 r3 r4 r5), (r1, chC cf cl zn 0), (r2, chC cf cl zn 1), (r3, chC cf cl zn 2), (r4, chC cf cl zn 3), (h0, rcC n0 rv w0 h1), (h1, mkC h2), (h2, .inl (cJ, 4, .inr (.inl f)))]) (cx := [(r0, rdC ov (va_rf ol) r1 r2 r3 r4 r5), (r1, chC cf cl zn 0), (r2, chC cf cl zn 1), (r3, chC cf cl zn 2), (r4, chC cf cl zn 3), (h0, rcC n0 rv w0 h1), (h1, mkC h2), (h2, .inl (cJ, 4, .inr (.inl f)))]) (pl := va_pl L (pf cJ kd pi bd af bo)) [0, 1, 2, 3, 4, 5, 6, 7] (by decide) rfl
    have hFc := va_freeP (X := [(r0, rdC ov (va_rf ol) r1 r2 r3 r4 r5), (r1, chC cf cl zn 0), (r2, chC cf cl zn 1), (r3, chC cf cl zn 2), (r4, chC cf cl zn 3), (h0, rcC n0 rv w0 h1), (h1, mkC h2), (h2, .inl (cJ, 4, .inr (.inl f)))]) (cx := [(r0, rdC ov (va_rf ol) r1 r2 r3 r4 r5), (r1, chC cf cl zn 0), (r2, chC cf cl zn 1), (r3, chC cf cl zn 2), (r4, chC cf cl zn 3), (h0, rcC n0 rv w0 h1), (h1, mkC h2), (h2, .inl (cJ, 4, .inr (.inl f)))]) (pl := va_pl L (pf cJ kd pi bd af bo)) hD hS hA [0, 1, 2, 3, 4, 5, 6, 7] rfl
    refine W.know2 (fun hka hkb => ?_)
    have hg0 : gr s.heap _ 0 := ⟨hka, hkb⟩
    have hle0 := hS.1
    refine va_callv (va_runV (As := [.ref r0, .int 1, .int n1]) (rest := []) ⟨hx, hb, hml, hown, ha⟩ (s_answer l D cI cJ cZ cO _ r0 r1 r2 r3 r4 r5 ov ol cf cl zn xl tag L kd pi bd af bo go gq gw ga h0 h1 h2 n0 w0 rv f 1 n1 (by decide) hR hPB hZ hG hJ hS2) (cwV 3 ha (gaV kl_X6_64 km_X6_answer ks_X6_answer kz_X6 kd_X6_answer) rfl rfl rfl (by decide +kernel) ⟨Nat.le_of_ble_eq_true rfl, Nat.le_of_ble_eq_true rfl⟩) ⟨pw_blindh, va_recv hK hPc (ci := 6) (q0 := 5) rfl rfl, fun U hU hW => ⟨rfl, pw_starth hU hW hPc hK hDc hN⟩⟩ rfl rfl hl.1 rfl (lv_room (Nat.le_of_ble_eq_true rfl)) dX6_tellWindow_16 ⟨Nat.le_of_ble_eq_true rfl, Nat.le_of_ble_eq_true rfl⟩) hS (fun q _ h => hFc q h) hFc (fun u t H1 locs ht hvm hw hB hz1 hk1 hS => ?_)
    obtain ⟨rv, cf, cl, zn, xl, tag, f, L, kd, pi, bd, af, bo, q_38, ga, ⟨hf_40, ⟨hG, hJ⟩, hX0, hX1, hX2⟩, hP1, hK1, hD1⟩ := hB
    have hE := bd_at rfl hE
    have hE := bd_at hX0 hE
    have hE := bd_at hX1 hE
    have hE := bd_at hX2 hE
    rw [ht] at hP1
    rw [ht] at hf_40
    obtain ⟨hP, hD⟩ := va_joinP (wr := []) (rx := [(r0, rdC ov (va_rf ol) r1 r2 r3 r4 r5), (r1, chC cf cl zn 0), (r2, chC cf cl zn 1), (r3, chC cf cl zn 2), (r4, chC cf cl zn 3), (h0, rcC n0 rv w0 h1), (h1, mkC h2), (h2, .inl (cJ, 4, .inr (.inl f)))]) (pl1 := va_pl L (pf cJ kd pi bd af bo)) hP hD [0, 1, 2, 3, 4, 5, 6, 7] [] rfl rfl (by decide) (by decide) hk1 hFc hP1 hD1
    generalize H1 = H at hP hS hf_40 ⊢
    have hP : va_P D vwCl ([(r0, rdC ov (va_rf ol) r1 r2 r3 r4 r5), (r1, chC cf cl zn 0), (r2, chC cf cl zn 1), (r3, chC cf cl zn 2), (r4, chC cf cl zn 3), (h0, rcC n0 rv w0 h1), (h1, mkC h2), (h2, .inl (cJ, 4, .inr (.inl f)))] ++ va_pl L (pf cJ kd pi bd af bo)) H := hP
    have hD : va_D A ([(r0, rdC ov (va_rf ol) r1 r2 r3 r4 r5), (r1, chC cf cl zn 0), (r2, chC cf cl zn 1), (r3, chC cf cl zn 2), (r4, chC cf cl zn 3), (h0, rcC n0 rv w0 h1), (h1, mkC h2), (h2, .inl (cJ, 4, .inr (.inl f)))] ++ va_pl L (pf cJ kd pi bd af bo)) := hD
    refine W.widen (k := 2) (n := 11) (Nat.le_of_ble_eq_true rfl) (Nat.le_of_ble_eq_true rfl) ?_
    have hR := hf_40.1
    have hPB := hf_40.2.1
    have hZ := hf_40.2.2.1
    have hg0 := gr_trans hle0 hg0 hf_40.2.2.2.1
    have hb1 := hf_40.2.2.2.2.1
    have hQ := QQ_trans hQ hf_40.2.2.2.2.2
    have hP9 : va_P D vwCl ([(r0, rdC ov (va_rf ol) r1 r2 r3 r4 r5), (r1, chC cf cl zn 0), (r2, chC cf cl zn 1), (r3, chC cf cl zn 2), (r4, chC cf cl zn 3), (h0, rcC n0 rv w0 h1), (h1, mkC h2), (h2, .inl (cJ, 4, .inr (.inl f)))] ++ va_pl L (pf cJ kd pi bd af bo)) _ := hP
    have hD9 : va_D A ([(r0, rdC ov (va_rf ol) r1 r2 r3 r4 r5), (r1, chC cf cl zn 0), (r2, chC cf cl zn 1), (r3, chC cf cl zn 2), (r4, chC cf cl zn 3), (h0, rcC n0 rv w0 h1), (h1, mkC h2), (h2, .inl (cJ, 4, .inr (.inl f)))] ++ va_pl L (pf cJ kd pi bd af bo)) := hD
    exact W.vret hx hb hr (fun t ht hW => ⟨⟨(), rfl, trivial, ⟨rv, cf, cl, zn, xl, tag, f, L, kd, pi, bd, af, bo, (0 + q_38), ga, [n1 + ov 3], ⟨⟨hR, hPB, hZ, by rw [ht]; exact hg0, by omega, Or.inr rfl, hQ⟩, ⟨hG, hJ⟩, (by rw [← hRES, hE]), (by rw [← hRES, hE]), (by rw [← hRES, hE])⟩, by rw [ht]; exact hP9, va_K.moved hW.alike hK, hD9⟩⟩, hS.F ht⟩) hS.2.2 dX6_tellWindow_19

set_option maxRecDepth 100000 in
def xc_answerLate (ov : Nat → Int32) (ga : List A6) (n0 : Int32) (w0 : Int32) (rv : Nat → Int32) (f : Nat → Int64) (n1 : Int32) : (Nat → Int32) × (Nat → Int64) × (List A6) := bd (rv 9) (fun v1 => (if v1 = n1 then bd (xc_answer ov ga n0 w0 rv f (0 : Int32) n1) (fun t2 => bd (t2.1) (fun rv => bd (t2.2.1) (fun f => bd (t2.2.2) (fun ga => (rv, f, ga))))) else (rv, f, ga)))
set_option maxHeartbeats 4000000 in
set_option maxRecDepth 100000 in
theorem s_answerLate (l : Launch) (D : va_G) (cI cJ cZ cO : ClassId) (Hh : Heap) (r0 r1 r2 r3 r4 r5 : Nat) (ov : Nat → Int32) (ol : Option Nat) (cf cl : Nat → Option Nat) (zn : Nat → Int32) (xl : Nat → List Nat) (tag : Nat → Nat) (L : List Nat) (kd : Nat → Bool) (pi : Nat → Nat → Int32) (bd : Nat → Nat) (af : Nat → Option Nat) (bo : Nat → Nat → Int64) (go : Option S4) (gq : List S3) (gw : List S4) (ga : List A6) (h0 h1 h2 : Nat) (n0 w0 : Int32) (rv : Nat → Int32) (f : Nat → Int64) (n1 : Int32) (hR : RI L kd af tag cf cl xl ol) (hPB : PB L kd pi bd) (hZ : ZN zn xl) (hG : GG xl pi bd bo ol go gq gw ga) (hJ : JB L kd bd) (hS2 : Srt (dz pi (xl 2))) : Met l yX6_answerLate (wa yX6_answerLate cX6_answerLate 3 none) ({ frames := 4, cells := 2, slots := 11, locals := 90 }) (va_Pc [.ref h0, .ref r0, .int n1] (pw_h D cI cJ cZ cO Hh ([(r0, rdC ov (va_rf ol) r1 r2 r3 r4 r5), (r1, chC cf cl zn 0), (r2, chC cf cl zn 1), (r3, chC cf cl zn 2), (r4, chC cf cl zn 3), (h0, rcC n0 rv w0 h1), (h1, mkC h2), (h2, .inl (cJ, 4, .inr (.inl f)))] ++ va_pl L (pf cJ kd pi bd af bo)))) (va_Qv (fun (_ : Unit) => True) (fun (_ : Unit) (t : State) => ∃ (rv2 : Nat → Int32) (cf2 cl2 : Nat → Option Nat) (zn2 : Nat → Int32) (xl2 : Nat → List Nat) (tag2 : Nat → Nat) (f2 : Nat → Int64) (L2 : List Nat) (kd2 : Nat → Bool) (pi2 : Nat → Nat → Int32) (bd2 : Nat → Nat) (af2 : Nat → Option Nat) (bo2 : Nat → Nat → Int64) (b2 : Nat) (ga2 : List A6) (ad2 : List Int32), ((RI L2 kd2 af2 tag2 cf2 cl2 xl2 ol ∧ PB L2 kd2 pi2 bd2 ∧ ZN zn2 xl2 ∧ gr Hh t.heap b2 ∧ b2 ≤ 1 ∧ (ad2 = [] ∨ ad2 = [n1 + ov 3]) ∧ QQ L kd tag xl pi ol L2 kd2 tag2 xl2 pi2 ol [] ad2 b2 0) ∧ (GG xl2 pi2 bd2 bo2 ol go gq gw ga2 ∧ JB L2 kd2 bd2) ∧ rv2 = (xc_answerLate ov ga n0 w0 rv f n1).1 ∧ f2 = (xc_answerLate ov ga n0 w0 rv f n1).2.1 ∧ ga2 = (xc_answerLate ov ga n0 w0 rv f n1).2.2) ∧ pw_t D cI cJ cZ cO (va_A ([(r0, rdC ov (va_rf ol) r1 r2 r3 r4 r5), (r1, chC cf cl zn 0), (r2, chC cf cl zn 1), (r3, chC cf cl zn 2), (r4, chC cf cl zn 3), (h0, rcC n0 rv w0 h1), (h1, mkC h2), (h2, .inl (cJ, 4, .inr (.inl f)))] ++ va_pl L (pf cJ kd pi bd af bo)) Hh.size) ([(r0, rdC ov (va_rf ol) r1 r2 r3 r4 r5), (r1, chC cf2 cl2 zn2 0), (r2, chC cf2 cl2 zn2 1), (r3, chC cf2 cl2 zn2 2), (r4, chC cf2 cl2 zn2 3), (h0, rcC n0 rv2 w0 h1), (h1, mkC h2), (h2, .inl (cJ, 4, .inr (.inl f2)))] ++ va_pl L2 (pf cJ kd2 pi2 bd2 af2 bo2)) t) (va_A ([(r0, rdC ov (va_rf ol) r1 r2 r3 r4 r5), (r1, chC cf cl zn 0), (r2, chC cf cl zn 1), (r3, chC cf cl zn 2), (r4, chC cf cl zn 3), (h0, rcC n0 rv w0 h1), (h1, mkC h2), (h2, .inl (cJ, 4, .inr (.inl f)))] ++ va_pl L (pf cJ kd pi bd af bo)) Hh.size)) 2 11 (va_A ([(r0, rdC ov (va_rf ol) r1 r2 r3 r4 r5), (r1, chC cf cl zn 0), (r2, chC cf cl zn 1), (r3, chC cf cl zn 2), (r4, chC cf cl zn 3), (h0, rcC n0 rv w0 h1), (h1, mkC h2), (h2, .inl (cJ, 4, .inr (.inl f)))] ++ va_pl L (pf cJ kd pi bd af bo)) Hh.size) := by
  refine Met.ofW (cc := cX6_answerLate) (maxL := 3) (ret := none) (by decide) rfl ?_
  intro p e s m args below meth c s₁ B hml hv
  obtain ⟨rfl, hsz, hP, hK, hD0, hN⟩ := hv
  have hx := B.exec
  have hb := B.bytes
  have hr := B.returns
  have hts := atoms_spec (ws := (wa yX6_answerLate cX6_answerLate 3 none)) B.pre
  have ha : ∀ w ∈ wsL_law, w.before _ s = true := fun w h => hts w (List.mem_cons_of_mem _ h)
  have hown : s.vm.findClass RX6 = some m.cls := findClass_of_methodNamed B.named
  have hlocks := B.notSynchronized
  subst hsz
  have hD := hD0.self (sz := s.heap.size)
  generalize hAe : va_A ([(r0, rdC ov (va_rf ol) r1 r2 r3 r4 r5), (r1, chC cf cl zn 0), (r2, chC cf cl zn 1), (r3, chC cf cl zn 2), (r4, chC cf cl zn 3), (h0, rcC n0 rv w0 h1), (h1, mkC h2), (h2, .inl (cJ, 4, .inr (.inl f)))] ++ va_pl L (pf cJ kd pi bd af bo)) s.heap.size = A at hD ⊢
  have hA : ∀ q : Nat, s.heap.size ≤ q → A q := fun q h => by rw [← hAe]; exact Or.inr h
  have hS : va_S A s.heap s.heap [] := va_S.rf
  have hP : va_P D vwCl ([(r0, rdC ov (va_rf ol) r1 r2 r3 r4 r5), (r1, chC cf cl zn 0), (r2, chC cf cl zn 1), (r3, chC cf cl zn 2), (r4, chC cf cl zn 3), (h0, rcC n0 rv w0 h1), (h1, mkC h2), (h2, .inl (cJ, 4, .inr (.inl f)))] ++ va_pl L (pf cJ kd pi bd af bo)) s.heap := hP
  have hl := lv_entry ([.ref h0, .ref r0, .int n1]) (n := 3) (Nat.le_of_ble_eq_true rfl)
  rw [lg_entry_eq]
  generalize (lg_sl ([.ref h0, .ref r0, .int n1]) ++ List.replicate (3 - (lg_sl ([.ref h0, .ref r0, .int n1])).length) Slot.unset).toArray = ls at hl ⊢
  have hl : lv_has ls 3 [(0, .ref h0), (1, .ref r0), (2, .int n1)] := hl
  obtain ⟨QP, hQP⟩ : ∃ y : State → Prop, y = (MQ below (va_Qv (fun (_ : Unit) => True) (fun (_ : Unit) (t : State) => ∃ (rv2 : Nat → Int32) (cf2 cl2 : Nat → Option Nat) (zn2 : Nat → Int32) (xl2 : Nat → List Nat) (tag2 : Nat → Nat) (f2 : Nat → Int64) (L2 : List Nat) (kd2 : Nat → Bool) (pi2 : Nat → Nat → Int32) (bd2 : Nat → Nat) (af2 : Nat → Option Nat) (bo2 : Nat → Nat → Int64) (b2 : Nat) (ga2 : List A6) (ad2 : List Int32), ((RI L2 kd2 af2 tag2 cf2 cl2 xl2 ol ∧ PB L2 kd2 pi2 bd2 ∧ ZN zn2 xl2 ∧ gr s.heap t.heap b2 ∧ b2 ≤ 1 ∧ (ad2 = [] ∨ ad2 = [n1 + ov 3]) ∧ QQ L kd tag xl pi ol L2 kd2 tag2 xl2 pi2 ol [] ad2 b2 0) ∧ (GG xl2 pi2 bd2 bo2 ol go gq gw ga2 ∧ JB L2 kd2 bd2) ∧ rv2 = (xc_answerLate ov ga n0 w0 rv f n1).1 ∧ f2 = (xc_answerLate ov ga n0 w0 rv f n1).2.1 ∧ ga2 = (xc_answerLate ov ga n0 w0 rv f n1).2.2) ∧ pw_t D cI cJ cZ cO A ([(r0, rdC ov (va_rf ol) r1 r2 r3 r4 r5), (r1, chC cf2 cl2 zn2 0), (r2, chC cf2 cl2 zn2 1), (r3, chC cf2 cl2 zn2 2), (r4, chC cf2 cl2 zn2 3), (h0, rcC n0 rv2 w0 h1), (h1, mkC h2), (h2, .inl (cJ, 4, .inr (.inl f2)))] ++ va_pl L2 (pf cJ kd2 pi2 bd2 af2 bo2)) t) A) #[(.ref h0 : Value), (.ref r0 : Value), (.int n1 : Value)] s 2 11 A) := ⟨_, rfl⟩
  obtain ⟨RES, hRES⟩ : ∃ y, y = (xc_answerLate ov ga n0 w0 rv f n1) := ⟨_, rfl⟩
  have hQ : QQ L kd tag xl pi ol L kd tag xl pi ol [] [] 0 0 := QQ_rf
  -- from the entry
  have hE := hRES
  unfold xc_answerLate at hE
  refine lv_aload_n hx hb dX6_answerLate_0 rfl (lv_at hl 0 rfl) ?_
  refine va_get (D := D) (ci := 6) (v := .int (rv 9)) (C := RX6) (T := TX6) (N := 11) hx hb ha inlX6 hown hK hP 5 rfl rfl 9 (by decide) (ha _ kf_X6_22) (fun _ h9 => h9) rfl dX6_answerLate_1 ?_
  refine lv_topi (fun x_20 ex_20 => ?_)
  have hE := bd_at ex_20 hE
  refine lv_iload_n hx hb dX6_answerLate_4 rfl (lv_at hl 2 rfl) ?_
  refine lv_icmp_ne (tgt := 15) hx hb dX6_answerLate_5 (by decide) (fun c_21 => ?_) (fun c_21 => ?_)
  · have hE := hE.trans (if_neg c_21)
    refine W.know2 (fun hk1 hk2 => ?_)
    have hg0 : gr s.heap _ 0 := ⟨hk1, hk2⟩
    refine W.widen (k := 2) (n := 11) (Nat.le_of_ble_eq_true rfl) (Nat.le_of_ble_eq_true rfl) ?_
    have hP9 : va_P D vwCl ([(r0, rdC ov (va_rf ol) r1 r2 r3 r4 r5), (r1, chC cf cl zn 0), (r2, chC cf cl zn 1), (r3, chC cf cl zn 2), (r4, chC cf cl zn 3), (h0, rcC n0 rv w0 h1), (h1, mkC h2), (h2, .inl (cJ, 4, .inr (.inl f)))] ++ va_pl L (pf cJ kd pi bd af bo)) _ := hP
    have hD9 : va_D A ([(r0, rdC ov (va_rf ol) r1 r2 r3 r4 r5), (r1, chC cf cl zn 0), (r2, chC cf cl zn 1), (r3, chC cf cl zn 2), (r4, chC cf cl zn 3), (h0, rcC n0 rv w0 h1), (h1, mkC h2), (h2, .inl (cJ, 4, .inr (.inl f)))] ++ va_pl L (pf cJ kd pi bd af bo)) := hD
    exact W.vret hx hb hr (fun t ht hW => ⟨⟨(), rfl, trivial, ⟨rv, cf, cl, zn, xl, tag, f, L, kd, pi, bd, af, bo, 0, ga, [], ⟨⟨hR, hPB, hZ, by rw [ht]; exact hg0, by omega, Or.inl rfl, hQ⟩, ⟨hG, hJ⟩, (by rw [← hRES, hE]), (by rw [← hRES, hE]), (by rw [← hRES, hE])⟩, by rw [ht]; exact hP9, va_K.moved hW.alike hK, hD9⟩⟩, hS.F ht⟩) hS.2.2 dX6_answerLate_15
  · have hE := hE.trans (if_pos c_21)
    refine lv_aload_n hx hb dX6_answerLate_8 rfl (lv_at hl 0 rfl) ?_
    refine lv_aload_n hx hb dX6_answerLate_9 rfl (lv_at hl 1 rfl) ?_
    refine lv_iconst (v := 0) hx hb dX6_answerLate_10 (by decide) ?_
    refine lv_iload_n hx hb dX6_answerLate_11 rfl (lv_at hl 2 rfl) ?_
    have hPc := hP.part (X := [(r0, rdC ov (va_rf ol) r1 r2 r3 r4 r5), (r1, chC cf cl zn 0), (r2, chC cf cl zn 1), (r3, chC cf cl zn 2), (r4, chC cf cl zn 3), (h0, rcC n0 rv w0 h1), (h1, mkC h2), (h2, .inl (cJ, 4, .inr (.inl f)))]) (cx := [(r0, rdC ov (va_rf ol) r1 r2 r3 r4 r5), (r1, chC cf cl zn 0), (r2, chC cf cl zn 1), (r3, chC cf cl zn 2), (r4, chC cf cl zn 3), (h0, rcC n0 rv w0 h1), (h1, mkC h2), (h2, .inl (cJ, 4, .inr (.inl f)))]) (pl := va_pl L (pf cJ kd pi bd af bo)) [0, 1, 2, 3, 4, 5, 6, 7] rfl
    have hDc := hD.part (X := [(r0, rdC ov (va_rf ol) r1 r2 r3 r4 r5), (r1, chC cf cl zn 0), (r2, chC cf cl zn 1), (r3, chC cf cl zn 2), (r4, chC cf cl zn 3), (h0, rcC n0 rv w0 h1), (h1, mkC h2), (h2, .inl (cJ, 4, .inr (.inl f)))]) (cx := [(r0, rdC ov (va_rf ol) r1 r2 r3 r4 r5), (r1, chC cf cl zn 0), (r2, chC cf cl zn 1), (r3, chC cf cl zn 2), (r4, chC cf cl zn 3), (h0, rcC n0 rv w0 h1), (h1, mkC h2), (h2, .inl (cJ, 4, .inr (.inl f)))]) (pl := va_pl L (pf cJ kd pi bd af bo)) [0, 1, 2, 3, 4, 5, 6, 7] (by decide) rfl
    have hFc := va_freeP (X := [(r0, rdC ov (va_rf ol) r1 r2 r3 r4 r5), (r1, chC cf cl zn 0), (r2, chC cf cl zn 1), (r3, chC cf cl zn 2), (r4, chC cf cl zn 3), (h0, rcC n0 rv w0 h1), (h1, mkC h2), (h2, .inl (cJ, 4, .inr (.inl f)))]) (cx := [(r0, rdC ov (va_rf ol) r1 r2 r3 r4 r5), (r1, chC cf cl zn 0), (r2, chC cf cl zn 1), (r3, chC cf cl zn 2), (r4, chC cf cl zn 3), (h0, rcC n0 rv w0 h1), (h1, mkC h2), (h2, .inl (cJ, 4, .inr (.inl f)))]) (pl := va_pl L (pf cJ kd pi bd af bo)) hD hS hA [0, 1, 2, 3, 4, 5, 6, 7] rfl
    refine W.know2 (fun hka hkb => ?_)
    have hg0 : gr s.heap _ 0 := ⟨hka, hkb⟩
    have hle0 := hS.1
    refine va_callv (va_runV (As := [.ref r0, .int 0, .int n1]) (rest := []) ⟨hx, hb, hml, hown, ha⟩ (s_answer l D cI cJ cZ cO _ r0 r1 r2 r3 r4 r5 ov ol cf cl zn xl tag L kd pi bd af bo go gq gw ga h0 h1 h2 n0 w0 rv f 0 n1 (by decide) hR hPB hZ hG hJ hS2) (cwV 3 ha (gaV kl_X6_64 km_X6_answer ks_X6_answer kz_X6 kd_X6_answer) rfl rfl rfl (by decide +kernel) ⟨Nat.le_of_ble_eq_true rfl, Nat.le_of_ble_eq_true rfl⟩) ⟨pw_blindh, va_recv hK hPc (ci := 6) (q0 := 5) rfl rfl, fun U hU hW => ⟨rfl, pw_starth hU hW hPc hK hDc hN⟩⟩ rfl rfl hl.1 rfl (lv_room (Nat.le_of_ble_eq_true rfl)) dX6_answerLate_12 ⟨Nat.le_of_ble_eq_true rfl, Nat.le_of_ble_eq_true rfl⟩) hS (fun q _ h => hFc q h) hFc (fun u t H1 locs ht hvm hw hB hz1 hk1 hS => ?_)
    obtain ⟨rv, cf, cl, zn, xl, tag, f, L, kd, pi, bd, af, bo, q_36, ga, ⟨hf_38, ⟨hG, hJ⟩, hX0, hX1, hX2⟩, hP1, hK1, hD1⟩ := hB
    have hE := bd_at rfl hE
    have hE := bd_at hX0 hE
    have hE := bd_at hX1 hE
    have hE := bd_at hX2 hE
    rw [ht] at hP1
    rw [ht] at hf_38
    obtain ⟨hP, hD⟩ := va_joinP (wr := []) (rx := [(r0, rdC ov (va_rf ol) r1 r2 r3 r4 r5), (r1, chC cf cl zn 0), (r2, chC cf cl zn 1), (r3, chC cf cl zn 2), (r4, chC cf cl zn 3), (h0, rcC n0 rv w0 h1), (h1, mkC h2), (h2, .inl (cJ, 4, .inr (.inl f)))]) (pl1 := va_pl L (pf cJ kd pi bd af bo)) hP hD [0, 1, 2, 3, 4, 5, 6, 7] [] rfl rfl (by decide) (by decide) hk1 hFc hP1 hD1
    generalize H1 = H at hP hS hf_38 ⊢
    have hP : va_P D vwCl ([(r0, rdC ov (va_rf ol) r1 r2 r3 r4 r5), (r1, chC cf cl zn 0), (r2, chC cf cl zn 1), (r3, chC cf cl zn 2), (r4, chC cf cl zn 3), (h0, rcC n0 rv w0 h1), (h1, mkC h2), (h2, .inl (cJ, 4, .inr (.inl f)))] ++ va_pl L (pf cJ kd pi bd af bo)) H := hP
    have hD : va_D A ([(r0, rdC ov (va_rf ol) r1 r2 r3 r4 r5), (r1, chC cf cl zn 0), (r2, chC cf cl zn 1), (r3, chC cf cl zn 2), (r4, chC cf cl zn 3), (h0, rcC n0 rv w0 h1), (h1, mkC h2), (h2, .inl (cJ, 4, .inr (.inl f)))] ++ va_pl L (pf cJ kd pi bd af bo)) := hD
    refine W.widen (k := 2) (n := 11) (Nat.le_of_ble_eq_true rfl) (Nat.le_of_ble_eq_true rfl) ?_
    have hR := hf_38.1
    have hPB := hf_38.2.1
    have hZ := hf_38.2.2.1
    have hg0 := gr_trans hle0 hg0 hf_38.2.2.2.1
    have hb1 := hf_38.2.2.2.2.1
    have hQ := QQ_trans hQ hf_38.2.2.2.2.2
    have hP9 : va_P D vwCl ([(r0, rdC ov (va_rf ol) r1 r2 r3 r4 r5), (r1, chC cf cl zn 0), (r2, chC cf cl zn 1), (r3, chC cf cl zn 2), (r4, chC cf cl zn 3), (h0, rcC n0 rv w0 h1), (h1, mkC h2), (h2, .inl (cJ, 4, .inr (.inl f)))] ++ va_pl L (pf cJ kd pi bd af bo)) _ := hP
    have hD9 : va_D A ([(r0, rdC ov (va_rf ol) r1 r2 r3 r4 r5), (r1, chC cf cl zn 0), (r2, chC cf cl zn 1), (r3, chC cf cl zn 2), (r4, chC cf cl zn 3), (h0, rcC n0 rv w0 h1), (h1, mkC h2), (h2, .inl (cJ, 4, .inr (.inl f)))] ++ va_pl L (pf cJ kd pi bd af bo)) := hD
    exact W.vret hx hb hr (fun t ht hW => ⟨⟨(), rfl, trivial, ⟨rv, cf, cl, zn, xl, tag, f, L, kd, pi, bd, af, bo, (0 + q_36), ga, [n1 + ov 3], ⟨⟨hR, hPB, hZ, by rw [ht]; exact hg0, by omega, Or.inr rfl, hQ⟩, ⟨hG, hJ⟩, (by rw [← hRES, hE]), (by rw [← hRES, hE]), (by rw [← hRES, hE])⟩, by rw [ht]; exact hP9, va_K.moved hW.alike hK, hD9⟩⟩, hS.F ht⟩) hS.2.2 dX6_answerLate_15
