set_option maxRecDepth 100000 in
def xc_lookAt (ov : Nat → Int32) (go : Option S4) (gq : List S3) (tf : Nat → Int32) (n0 : Int32) (k0 : Int32) (g0 : Int32) (sv : Nat → Int32) (tv : Nat → Int32) (bv : Nat → Int32) (cv : Nat → Int32) (f : Nat → Int64) (g : Nat → Int64) (n1 : Int32) : (Nat → Int32) × (Nat → Int32) × (Nat → Int32) × (Nat → Int32) × (Nat → Int64) × (Nat → Int64) × (Nat → Int32) × (Nat → Int32) × (Option S4) × (List S3) := bd (tv 3) (fun v1 => (if v1 = n1 then bd (xc_tput tv) (fun t2 => bd (t2) (fun tv => bd (upd tv 4 ((-1) : Int32)) (fun tv => bd (sv 4) (fun v3 => bd (sv 3) (fun v4 => (if v3 ≤ v4 then bd (sv 9) (fun v5 => (if v5 = (0 : Int32) then bd (sv 4) (fun v6 => (if g0 ≤ v6 then (sv, tv, bv, cv, f, g, ov, tf, go, gq) else bd (xc_probe ov go gq tf n0 k0 g0 sv tv bv cv f g n1) (fun t7 => bd (t7.1) (fun sv => bd (t7.2.1) (fun tv => bd (t7.2.2.1) (fun bv => bd (t7.2.2.2.1) (fun cv => bd (t7.2.2.2.2.1) (fun f => bd (t7.2.2.2.2.2.1) (fun g => bd (t7.2.2.2.2.2.2.1) (fun ov => bd (t7.2.2.2.2.2.2.2.1) (fun tf => bd (t7.2.2.2.2.2.2.2.2.1) (fun go => bd (t7.2.2.2.2.2.2.2.2.2) (fun gq => (sv, tv, bv, cv, f, g, ov, tf, go, gq)))))))))))))) else (sv, tv, bv, cv, f, g, ov, tf, go, gq))) else bd (xc_timeOut n0 k0 g0 sv tv bv cv f g) (fun t8 => bd (t8.1) (fun sv => bd (t8.2.1) (fun tv => bd (t8.2.2.1) (fun bv => bd (t8.2.2.2.1) (fun cv => bd (t8.2.2.2.2.1) (fun f => bd (t8.2.2.2.2.2) (fun g => (sv, tv, bv, cv, f, g, ov, tf, go, gq)))))))))))))) else (sv, tv, bv, cv, f, g, ov, tf, go, gq)))
set_option maxHeartbeats 4000000 in
set_option maxRecDepth 100000 in
theorem s_lookAt (l : Launch) (D : va_G) (cI cJ cZ cO : ClassId) (Hh : Heap) (r0 r1 r2 r3 r4 r5 : Nat) (ov : Nat → Int32) (ol : Option Nat) (cf cl : Nat → Option Nat) (zn : Nat → Int32) (xl : Nat → List Nat) (tag : Nat → Nat) (L : List Nat) (kd : Nat → Bool) (pi : Nat → Nat → Int32) (bd : Nat → Nat) (af : Nat → Option Nat) (bo : Nat → Nat → Int64) (go : Option S4) (gq : List S3) (gw : List S4) (ga : List A6) (tf : Nat → Int32) (h0 h1 h2 h3 h4 h5 h6 h7 : Nat) (n0 k0 g0 : Int32) (sv tv bv cv : Nat → Int32) (f g : Nat → Int64) (n1 : Int32) (hR : RI L kd af tag cf cl xl ol) (hPB : PB L kd pi bd) (hZ : ZN zn xl) (hG : GG xl pi bd bo ol go gq gw ga) (hJ : JB L kd bd) (hT : 0 ≤ ov 10) (hLK : LK ov) (hq0 : (xl 0).length ≤ 100) : Met l yX8_lookAtTimer (wa yX8_lookAtTimer cX8_lookAtTimer 3 none) ({ frames := 4, cells := 2, slots := 11, locals := 101 }) (va_Pc [.ref h0, .ref r0, .int n1] (pw_h D cI cJ cZ cO Hh ([(r0, rdC ov (va_rf ol) r1 r2 r3 r4 r5), (r1, chC cf cl zn 0), (r2, chC cf cl zn 1), (r3, chC cf cl zn 2), (r4, chC cf cl zn 3), (r5, tlC cI tf), (h0, snC n0 k0 g0 sv h1 h2 h7), (h1, tmC tv), (h2, boC h3 h5 bv), (h3, mkC h4), (h4, .inl (cJ, 4, .inr (.inl f))), (h5, mkC h6), (h6, .inl (cJ, 4, .inr (.inl g))), (h7, cuC cv)] ++ va_pl L (pf cJ kd pi bd af bo)))) (va_Qv (fun (_ : Unit) => True) (fun (_ : Unit) (t : State) => ∃ (sv2 tv2 bv2 cv2 : Nat → Int32) (f2 g2 : Nat → Int64) (ov2 tf2 : Nat → Int32) (ol2 : Option Nat) (cf2 cl2 : Nat → Option Nat) (zn2 : Nat → Int32) (xl2 : Nat → List Nat) (tag2 : Nat → Nat) (L2 : List Nat) (kd2 : Nat → Bool) (pi2 : Nat → Nat → Int32) (bd2 : Nat → Nat) (af2 : Nat → Option Nat) (bo2 : Nat → Nat → Int64) (b2 : Nat) (go2 : Option S4) (gq2 : List S3), ((RI L2 kd2 af2 tag2 cf2 cl2 xl2 ol2 ∧ PB L2 kd2 pi2 bd2 ∧ ZN zn2 xl2 ∧ 0 ≤ ov2 10 ∧ gr Hh t.heap b2 ∧ b2 ≤ 1 ∧ LK ov2 ∧ QQ L kd tag xl pi ol L2 kd2 tag2 xl2 pi2 ol2 [] [] b2 0) ∧ (GG xl2 pi2 bd2 bo2 ol2 go2 gq2 gw ga ∧ JB L2 kd2 bd2) ∧ sv2 = (xc_lookAt ov go gq tf n0 k0 g0 sv tv bv cv f g n1).1 ∧ tv2 = (xc_lookAt ov go gq tf n0 k0 g0 sv tv bv cv f g n1).2.1 ∧ bv2 = (xc_lookAt ov go gq tf n0 k0 g0 sv tv bv cv f g n1).2.2.1 ∧ cv2 = (xc_lookAt ov go gq tf n0 k0 g0 sv tv bv cv f g n1).2.2.2.1 ∧ f2 = (xc_lookAt ov go gq tf n0 k0 g0 sv tv bv cv f g n1).2.2.2.2.1 ∧ g2 = (xc_lookAt ov go gq tf n0 k0 g0 sv tv bv cv f g n1).2.2.2.2.2.1 ∧ ov2 = (xc_lookAt ov go gq tf n0 k0 g0 sv tv bv cv f g n1).2.2.2.2.2.2.1 ∧ tf2 = (xc_lookAt ov go gq tf n0 k0 g0 sv tv bv cv f g n1).2.2.2.2.2.2.2.1 ∧ go2 = (xc_lookAt ov go gq tf n0 k0 g0 sv tv bv cv f g n1).2.2.2.2.2.2.2.2.1 ∧ gq2 = (xc_lookAt ov go gq tf n0 k0 g0 sv tv bv cv f g n1).2.2.2.2.2.2.2.2.2) ∧ pw_t D cI cJ cZ cO (va_A ([(r0, rdC ov (va_rf ol) r1 r2 r3 r4 r5), (r1, chC cf cl zn 0), (r2, chC cf cl zn 1), (r3, chC cf cl zn 2), (r4, chC cf cl zn 3), (r5, tlC cI tf), (h0, snC n0 k0 g0 sv h1 h2 h7), (h1, tmC tv), (h2, boC h3 h5 bv), (h3, mkC h4), (h4, .inl (cJ, 4, .inr (.inl f))), (h5, mkC h6), (h6, .inl (cJ, 4, .inr (.inl g))), (h7, cuC cv)] ++ va_pl L (pf cJ kd pi bd af bo)) Hh.size) ([(r0, rdC ov2 (va_rf ol2) r1 r2 r3 r4 r5), (r1, chC cf2 cl2 zn2 0), (r2, chC cf2 cl2 zn2 1), (r3, chC cf2 cl2 zn2 2), (r4, chC cf2 cl2 zn2 3), (r5, tlC cI tf2), (h0, snC n0 k0 g0 sv2 h1 h2 h7), (h1, tmC tv2), (h2, boC h3 h5 bv2), (h3, mkC h4), (h4, .inl (cJ, 4, .inr (.inl f2))), (h5, mkC h6), (h6, .inl (cJ, 4, .inr (.inl g2))), (h7, cuC cv2)] ++ va_pl L2 (pf cJ kd2 pi2 bd2 af2 bo2)) t) (va_A ([(r0, rdC ov (va_rf ol) r1 r2 r3 r4 r5), (r1, chC cf cl zn 0), (r2, chC cf cl zn 1), (r3, chC cf cl zn 2), (r4, chC cf cl zn 3), (r5, tlC cI tf), (h0, snC n0 k0 g0 sv h1 h2 h7), (h1, tmC tv), (h2, boC h3 h5 bv), (h3, mkC h4), (h4, .inl (cJ, 4, .inr (.inl f))), (h5, mkC h6), (h6, .inl (cJ, 4, .inr (.inl g))), (h7, cuC cv)] ++ va_pl L (pf cJ kd pi bd af bo)) Hh.size)) 2 11 (va_A ([(r0, rdC ov (va_rf ol) r1 r2 r3 r4 r5), (r1, chC cf cl zn 0), (r2, chC cf cl zn 1), (r3, chC cf cl zn 2), (r4, chC cf cl zn 3), (r5, tlC cI tf), (h0, snC n0 k0 g0 sv h1 h2 h7), (h1, tmC tv), (h2, boC h3 h5 bv), (h3, mkC h4), (h4, .inl (cJ, 4, .inr (.inl f))), (h5, mkC h6), (h6, .inl (cJ, 4, .inr (.inl g))), (h7, cuC cv)] ++ va_pl L (pf cJ kd pi bd af bo)) Hh.size) := by
  refine Met.ofW (cc := cX8_lookAtTimer) (maxL := 3) (ret := none) (by decide) rfl ?_
  intro p e s m args below meth c s₁ B hml hv
  obtain ⟨rfl, hsz, hP, hK, hD0, hN⟩ := hv
  have hx := B.exec
  have hb := B.bytes
  have hr := B.returns
  have hts := atoms_spec (ws := (wa yX8_lookAtTimer cX8_lookAtTimer 3 none)) B.pre
  have ha : ∀ w ∈ wsL_law, w.before _ s = true := fun w h => hts w (List.mem_cons_of_mem _ h)
  have hown : s.vm.findClass RX8 = some m.cls := findClass_of_methodNamed B.named
  have hlocks := B.notSynchronized
  subst hsz
  have hD := hD0.self (sz := s.heap.size)
  generalize hAe : va_A ([(r0, rdC ov (va_rf ol) r1 r2 r3 r4 r5), (r1, chC cf cl zn 0), (r2, chC cf cl zn 1), (r3, chC cf cl zn 2), (r4, chC cf cl zn 3), (r5, tlC cI tf), (h0, snC n0 k0 g0 sv h1 h2 h7), (h1, tmC tv), (h2, boC h3 h5 bv), (h3, mkC h4), (h4, .inl (cJ, 4, .inr (.inl f))), (h5, mkC h6), (h6, .inl (cJ, 4, .inr (.inl g))), (h7, cuC cv)] ++ va_pl L (pf cJ kd pi bd af bo)) s.heap.size = A at hD ⊢
  have hA : ∀ q : Nat, s.heap.size ≤ q → A q := fun q h => by rw [← hAe]; exact Or.inr h
  have hS : va_S A s.heap s.heap [] := va_S.rf
  have hP : va_P D vwCl ([(r0, rdC ov (va_rf ol) r1 r2 r3 r4 r5), (r1, chC cf cl zn 0), (r2, chC cf cl zn 1), (r3, chC cf cl zn 2), (r4, chC cf cl zn 3), (r5, tlC cI tf), (h0, snC n0 k0 g0 sv h1 h2 h7), (h1, tmC tv), (h2, boC h3 h5 bv), (h3, mkC h4), (h4, .inl (cJ, 4, .inr (.inl f))), (h5, mkC h6), (h6, .inl (cJ, 4, .inr (.inl g))), (h7, cuC cv)] ++ va_pl L (pf cJ kd pi bd af bo)) s.heap := hP
  have hl := lv_entry ([.ref h0, .ref r0, .int n1]) (n := 3) (Nat.le_of_ble_eq_true rfl)
  rw [lg_entry_eq]
  generalize (lg_sl ([.ref h0, .ref r0, .int n1]) ++ List.replicate (3 - (lg_sl ([.ref h0, .ref r0, .int n1])).length) Slot.unset).toArray = ls at hl ⊢
  have hl : lv_has ls 3 [(0, .ref h0), (1, .ref r0), (2, .int n1)] := hl
  obtain ⟨QP, hQP⟩ : ∃ y : State → Prop, y = (MQ below (va_Qv (fun (_ : Unit) => True) (fun (_ : Unit) (t : State) => ∃ (sv2 tv2 bv2 cv2 : Nat → Int32) (f2 g2 : Nat → Int64) (ov2 tf2 : Nat → Int32) (ol2 : Option Nat) (cf2 cl2 : Nat → Option Nat) (zn2 : Nat → Int32) (xl2 : Nat → List Nat) (tag2 : Nat → Nat) (L2 : List Nat) (kd2 : Nat → Bool) (pi2 : Nat → Nat → Int32) (bd2 : Nat → Nat) (af2 : Nat → Option Nat) (bo2 : Nat → Nat → Int64) (b2 : Nat) (go2 : Option S4) (gq2 : List S3), ((RI L2 kd2 af2 tag2 cf2 cl2 xl2 ol2 ∧ PB L2 kd2 pi2 bd2 ∧ ZN zn2 xl2 ∧ 0 ≤ ov2 10 ∧ gr s.heap t.heap b2 ∧ b2 ≤ 1 ∧ LK ov2 ∧ QQ L kd tag xl pi ol L2 kd2 tag2 xl2 pi2 ol2 [] [] b2 0) ∧ (GG xl2 pi2 bd2 bo2 ol2 go2 gq2 gw ga ∧ JB L2 kd2 bd2) ∧ sv2 = (xc_lookAt ov go gq tf n0 k0 g0 sv tv bv cv f g n1).1 ∧ tv2 = (xc_lookAt ov go gq tf n0 k0 g0 sv tv bv cv f g n1).2.1 ∧ bv2 = (xc_lookAt ov go gq tf n0 k0 g0 sv tv bv cv f g n1).2.2.1 ∧ cv2 = (xc_lookAt ov go gq tf n0 k0 g0 sv tv bv cv f g n1).2.2.2.1 ∧ f2 = (xc_lookAt ov go gq tf n0 k0 g0 sv tv bv cv f g n1).2.2.2.2.1 ∧ g2 = (xc_lookAt ov go gq tf n0 k0 g0 sv tv bv cv f g n1).2.2.2.2.2.1 ∧ ov2 = (xc_lookAt ov go gq tf n0 k0 g0 sv tv bv cv f g n1).2.2.2.2.2.2.1 ∧ tf2 = (xc_lookAt ov go gq tf n0 k0 g0 sv tv bv cv f g n1).2.2.2.2.2.2.2.1 ∧ go2 = (xc_lookAt ov go gq tf n0 k0 g0 sv tv bv cv f g n1).2.2.2.2.2.2.2.2.1 ∧ gq2 = (xc_lookAt ov go gq tf n0 k0 g0 sv tv bv cv f g n1).2.2.2.2.2.2.2.2.2) ∧ pw_t D cI cJ cZ cO A ([(r0, rdC ov2 (va_rf ol2) r1 r2 r3 r4 r5), (r1, chC cf2 cl2 zn2 0), (r2, chC cf2 cl2 zn2 1), (r3, chC cf2 cl2 zn2 2), (r4, chC cf2 cl2 zn2 3), (r5, tlC cI tf2), (h0, snC n0 k0 g0 sv2 h1 h2 h7), (h1, tmC tv2), (h2, boC h3 h5 bv2), (h3, mkC h4), (h4, .inl (cJ, 4, .inr (.inl f2))), (h5, mkC h6), (h6, .inl (cJ, 4, .inr (.inl g2))), (h7, cuC cv2)] ++ va_pl L2 (pf cJ kd2 pi2 bd2 af2 bo2)) t) A) #[(.ref h0 : Value), (.ref r0 : Value), (.int n1 : Value)] s 2 11 A) := ⟨_, rfl⟩
  obtain ⟨RES, hRES⟩ : ∃ y, y = (xc_lookAt ov go gq tf n0 k0 g0 sv tv bv cv f g n1) := ⟨_, rfl⟩
  have hQ : QQ L kd tag xl pi ol L kd tag xl pi ol [] [] 0 0 := QQ_rf
  -- from the entry
  have hE := hRES
  unfold xc_lookAt at hE
  refine lv_aload_n hx hb dX8_lookAtTimer_0 rfl (lv_at hl 0 rfl) ?_
  refine va_get (D := D) (ci := 8) (v := .ref h1) (C := RX8) (T := TX8) (N := 20) hx hb ha inlX8 hown hK hP 6 rfl rfl 17 (by decide) (ha _ kf_X8_28) (fun _ h9 => h9) rfl dX8_lookAtTimer_1 ?_
  refine va_getN (D := D) (ci := 9) (v := .int (tv 3)) (C := RX9) (T := TX9) (N := 6) hx hb ha inlX9 hown hK hP 7 rfl rfl 3 (by decide) (va_Nw.use rfl (hN.f RX8 114 "CongestionBench$Timer" "due" "I" "CongestionBench" (by decide +kernel))) (fun _ h9 => h9) rfl dX8_lookAtTimer_4 ?_
  refine lv_topi (fun x_47 ex_47 => ?_)
  have hE := bd_at ex_47 hE
  refine lv_iload_n hx hb dX8_lookAtTimer_7 rfl (lv_at hl 2 rfl) ?_
  refine lv_icmp_eq (tgt := 12) hx hb dX8_lookAtTimer_8 (by decide) (fun c_48 => ?_) (fun c_48 => ?_)
  · have hE := hE.trans (if_pos c_48)
    refine lv_aload_n hx hb dX8_lookAtTimer_12 rfl (lv_at hl 0 rfl) ?_
    refine va_get (D := D) (ci := 8) (v := .ref h1) (C := RX8) (T := TX8) (N := 20) hx hb ha inlX8 hown hK hP 6 rfl rfl 17 (by decide) (ha _ kf_X8_28) (fun _ h9 => h9) rfl dX8_lookAtTimer_13 ?_
    have hPc := hP.sub (ws' := [(h1, tmC tv)]) [7] rfl
    have hDc := hD.sub (ws' := [(h1, tmC tv)]) [7] (by decide) rfl
    have hFc := va_free (wc := [(h1, tmC tv)]) hD hS hA [7] rfl
    refine va_callv (va_runV (As := []) (rest := []) ⟨hx, hb, hml, hown, ha⟩ (s_tput l D cI cJ cZ cO _ h1 tv) (cwV 0 ha (gaV kl_X8_111 km_X9_putOff ks_X9_putOff kz_X9 kd_X9_putOff) rfl rfl rfl (by decide +kernel) ⟨Nat.le_of_ble_eq_true rfl, Nat.le_of_ble_eq_true rfl⟩) ⟨pw_blind, va_recv hK hPc (ci := 9) (q0 := 0) rfl rfl, fun U hU hW => ⟨rfl, pw_start hU hW hPc hK hDc hN⟩⟩ rfl rfl hl.1 rfl (lv_room (Nat.le_of_ble_eq_true rfl)) dX8_lookAtTimer_16 ⟨Nat.le_of_ble_eq_true rfl, Nat.le_of_ble_eq_true rfl⟩) hS (fun q _ h => hFc q h) hFc (fun u t H1 locs ht hvm hw hB hz1 hk1 hS => ?_)
    obtain ⟨tv, hX0, hP1, hK1, hD1⟩ := hB
    have hE := bd_at rfl hE
    have hE := bd_at hX0 hE
    rw [ht] at hP1
    obtain ⟨hP, hD⟩ := va_joinQ (wr := [(r0, rdC ov (va_rf ol) r1 r2 r3 r4 r5), (r1, chC cf cl zn 0), (r2, chC cf cl zn 1), (r3, chC cf cl zn 2), (r4, chC cf cl zn 3), (r5, tlC cI tf), (h0, snC n0 k0 g0 sv h1 h2 h7), (h2, boC h3 h5 bv), (h3, mkC h4), (h4, .inl (cJ, 4, .inr (.inl f))), (h5, mkC h6), (h6, .inl (cJ, 4, .inr (.inl g))), (h7, cuC cv)]) (w1 := [(h1, tmC tv)]) hP hD [7] [0, 1, 2, 3, 4, 5, 6, 8, 9, 10, 11, 12, 13] rfl rfl (by decide) (by decide) hk1 hFc hP1 hD1
    generalize H1 = H at hP hS ⊢
    have hP : va_P D vwCl ([(r0, rdC ov (va_rf ol) r1 r2 r3 r4 r5), (r1, chC cf cl zn 0), (r2, chC cf cl zn 1), (r3, chC cf cl zn 2), (r4, chC cf cl zn 3), (r5, tlC cI tf), (h0, snC n0 k0 g0 sv h1 h2 h7), (h2, boC h3 h5 bv), (h3, mkC h4), (h4, .inl (cJ, 4, .inr (.inl f))), (h5, mkC h6), (h6, .inl (cJ, 4, .inr (.inl g))), (h7, cuC cv), (h1, tmC tv)] ++ va_pl L (pf cJ kd pi bd af bo)) H := hP
    have hD : va_D A ([(r0, rdC ov (va_rf ol) r1 r2 r3 r4 r5), (r1, chC cf cl zn 0), (r2, chC cf cl zn 1), (r3, chC cf cl zn 2), (r4, chC cf cl zn 3), (r5, tlC cI tf), (h0, snC n0 k0 g0 sv h1 h2 h7), (h2, boC h3 h5 bv), (h3, mkC h4), (h4, .inl (cJ, 4, .inr (.inl f))), (h5, mkC h6), (h6, .inl (cJ, 4, .inr (.inl g))), (h7, cuC cv), (h1, tmC tv)] ++ va_pl L (pf cJ kd pi bd af bo)) := hD
    refine W.widen (k := 0) (n := 0) (Nat.le_of_ble_eq_true rfl) (Nat.le_of_ble_eq_true rfl) ?_
    refine lv_aload_n hx hb dX8_lookAtTimer_19 rfl (lv_at hl 0 rfl) ?_
    refine va_get (D := D) (ci := 8) (v := .ref h1) (C := RX8) (T := TX8) (N := 20) hx hb ha inlX8 hown hK hP 6 rfl rfl 17 (by decide) (ha _ kf_X8_28) (fun _ h9 => h9) rfl dX8_lookAtTimer_20 ?_
    refine lv_iconst (v := (-1)) hx hb dX8_lookAtTimer_23 (by decide) ?_
    refine va_putN (D := D) (ci := 9) (v := .int (-1)) (ty := .int) (C := RX9) (T := TX9) (N := 6) hx hb ha inlX9 tyX9 tyX9_ok nmX9 hown hK hP hD hS 13 rfl rfl 4 (by decide) (va_Nw.use rfl (hN.f RX8 117 "CongestionBench$Timer" "measured" "I" "CongestionBench" (by decide +kernel))) (fun _ h9 => h9) rfl (by decide +kernel) rfl rfl (Nat.le_of_ble_eq_true rfl) dX8_lookAtTimer_24 (fun H locs hP hD hS => ?_)
    have hP : va_P D vwCl ([(r0, rdC ov (va_rf ol) r1 r2 r3 r4 r5), (r1, chC cf cl zn 0), (r2, chC cf cl zn 1), (r3, chC cf cl zn 2), (r4, chC cf cl zn 3), (r5, tlC cI tf), (h0, snC n0 k0 g0 sv h1 h2 h7), (h2, boC h3 h5 bv), (h3, mkC h4), (h4, .inl (cJ, 4, .inr (.inl f))), (h5, mkC h6), (h6, .inl (cJ, 4, .inr (.inl g))), (h7, cuC cv), (h1, tmC (upd tv 4 (-1)))] ++ va_pl L (pf cJ kd pi bd af bo)) H := hP
    have hD : va_D A ([(r0, rdC ov (va_rf ol) r1 r2 r3 r4 r5), (r1, chC cf cl zn 0), (r2, chC cf cl zn 1), (r3, chC cf cl zn 2), (r4, chC cf cl zn 3), (r5, tlC cI tf), (h0, snC n0 k0 g0 sv h1 h2 h7), (h2, boC h3 h5 bv), (h3, mkC h4), (h4, .inl (cJ, 4, .inr (.inl f))), (h5, mkC h6), (h6, .inl (cJ, 4, .inr (.inl g))), (h7, cuC cv), (h1, tmC (upd tv 4 (-1)))] ++ va_pl L (pf cJ kd pi bd af bo)) := hD
    generalize hg_52 : upd tv 4 (-1) = tv at hP hD
    have hE := bs_at hg_52 hE
    refine lv_aload_n hx hb dX8_lookAtTimer_27 rfl (lv_at hl 0 rfl) ?_
    refine va_get (D := D) (ci := 8) (v := .int (sv 4)) (C := RX8) (T := TX8) (N := 20) hx hb ha inlX8 hown hK hP 6 rfl rfl 4 (by decide) (ha _ kf_X8_65) (fun _ h9 => h9) rfl dX8_lookAtTimer_28 ?_
    refine lv_topi (fun x_53 ex_53 => ?_)
    have hE := bd_at ex_53 hE
    refine lv_aload_n hx hb dX8_lookAtTimer_31 rfl (lv_at hl 0 rfl) ?_
    refine va_get (D := D) (ci := 8) (v := .int (sv 3)) (C := RX8) (T := TX8) (N := 20) hx hb ha inlX8 hown hK hP 6 rfl rfl 3 (by decide) (ha _ kf_X8_59) (fun _ h9 => h9) rfl dX8_lookAtTimer_32 ?_
    refine lv_topi (fun x_54 ex_54 => ?_)
    have hE := bd_at ex_54 hE
    refine lv_icmp_le (tgt := 45) hx hb dX8_lookAtTimer_35 (by decide) (fun c_55 => ?_) (fun c_55 => ?_)
    · have hE := hE.trans (if_pos c_55)
      refine lv_aload_n hx hb dX8_lookAtTimer_45 rfl (lv_at hl 0 rfl) ?_
      refine va_get (D := D) (ci := 8) (v := .int (sv 9)) (C := RX8) (T := TX8) (N := 20) hx hb ha inlX8 hown hK hP 6 rfl rfl 9 (by decide) (ha _ kf_X8_22) (fun _ h9 => h9) rfl dX8_lookAtTimer_46 ?_
      refine lv_topi (fun x_56 ex_56 => ?_)
      have hE := bd_at ex_56 hE
      refine lv_if_ne (tgt := 69) hx hb dX8_lookAtTimer_49 (by decide) (fun c_57 => ?_) (fun c_57 => ?_)
      · have hE := hE.trans (if_neg c_57)
        refine W.know2 (fun hk1 hk2 => ?_)
        have hg0 : gr s.heap _ 0 := ⟨hk1, hk2⟩
        refine W.widen (k := 2) (n := 11) (Nat.le_of_ble_eq_true rfl) (Nat.le_of_ble_eq_true rfl) ?_
        have hP9 : va_P D vwCl ([(r0, rdC ov (va_rf ol) r1 r2 r3 r4 r5), (r1, chC cf cl zn 0), (r2, chC cf cl zn 1), (r3, chC cf cl zn 2), (r4, chC cf cl zn 3), (r5, tlC cI tf), (h0, snC n0 k0 g0 sv h1 h2 h7), (h1, tmC tv), (h2, boC h3 h5 bv), (h3, mkC h4), (h4, .inl (cJ, 4, .inr (.inl f))), (h5, mkC h6), (h6, .inl (cJ, 4, .inr (.inl g))), (h7, cuC cv)] ++ va_pl L (pf cJ kd pi bd af bo)) _ := hP.part [0, 1, 2, 3, 4, 5, 6, 13, 7, 8, 9, 10, 11, 12] rfl
        have hD9 : va_D A ([(r0, rdC ov (va_rf ol) r1 r2 r3 r4 r5), (r1, chC cf cl zn 0), (r2, chC cf cl zn 1), (r3, chC cf cl zn 2), (r4, chC cf cl zn 3), (r5, tlC cI tf), (h0, snC n0 k0 g0 sv h1 h2 h7), (h1, tmC tv), (h2, boC h3 h5 bv), (h3, mkC h4), (h4, .inl (cJ, 4, .inr (.inl f))), (h5, mkC h6), (h6, .inl (cJ, 4, .inr (.inl g))), (h7, cuC cv)] ++ va_pl L (pf cJ kd pi bd af bo)) := hD.part [0, 1, 2, 3, 4, 5, 6, 13, 7, 8, 9, 10, 11, 12] (by decide) rfl
        exact W.vret hx hb hr (fun t ht hW => ⟨⟨(), rfl, trivial, ⟨sv, tv, bv, cv, f, g, ov, tf, ol, cf, cl, zn, xl, tag, L, kd, pi, bd, af, bo, 0, go, gq, ⟨⟨hR, hPB, hZ, hT, by rw [ht]; exact hg0, by omega, hLK, hQ⟩, ⟨hG, hJ⟩, (by rw [← hRES, hE]), (by rw [← hRES, hE]), (by rw [← hRES, hE]), (by rw [← hRES, hE]), (by rw [← hRES, hE]), (by rw [← hRES, hE]), (by rw [← hRES, hE]), (by rw [← hRES, hE]), (by rw [← hRES, hE]), (by rw [← hRES, hE])⟩, by rw [ht]; exact hP9, va_K.moved hW.alike hK, hD9⟩⟩, hS.F ht⟩) hS.2.2 dX8_lookAtTimer_69
      · have hE := hE.trans (if_pos c_57)
        refine lv_aload_n hx hb dX8_lookAtTimer_52 rfl (lv_at hl 0 rfl) ?_
        refine va_get (D := D) (ci := 8) (v := .int (sv 4)) (C := RX8) (T := TX8) (N := 20) hx hb ha inlX8 hown hK hP 6 rfl rfl 4 (by decide) (ha _ kf_X8_65) (fun _ h9 => h9) rfl dX8_lookAtTimer_53 ?_
        refine lv_topi (fun x_58 ex_58 => ?_)
        have hE := bd_at ex_58 hE
        refine lv_aload_n hx hb dX8_lookAtTimer_56 rfl (lv_at hl 0 rfl) ?_
        refine va_get (D := D) (ci := 8) (v := .int g0) (C := RX8) (T := TX8) (N := 20) hx hb ha inlX8 hown hK hP 6 rfl rfl 2 (by decide) (ha _ kf_X8_52) (fun _ h9 => h9) rfl dX8_lookAtTimer_57 ?_
        refine lv_icmp_ge (tgt := 69) hx hb dX8_lookAtTimer_60 (by decide) (fun c_59 => ?_) (fun c_59 => ?_)
        · have hE := hE.trans (if_pos c_59)
          refine W.know2 (fun hk1 hk2 => ?_)
          have hg0 : gr s.heap _ 0 := ⟨hk1, hk2⟩
          refine W.widen (k := 2) (n := 11) (Nat.le_of_ble_eq_true rfl) (Nat.le_of_ble_eq_true rfl) ?_
          have hP9 : va_P D vwCl ([(r0, rdC ov (va_rf ol) r1 r2 r3 r4 r5), (r1, chC cf cl zn 0), (r2, chC cf cl zn 1), (r3, chC cf cl zn 2), (r4, chC cf cl zn 3), (r5, tlC cI tf), (h0, snC n0 k0 g0 sv h1 h2 h7), (h1, tmC tv), (h2, boC h3 h5 bv), (h3, mkC h4), (h4, .inl (cJ, 4, .inr (.inl f))), (h5, mkC h6), (h6, .inl (cJ, 4, .inr (.inl g))), (h7, cuC cv)] ++ va_pl L (pf cJ kd pi bd af bo)) _ := hP.part [0, 1, 2, 3, 4, 5, 6, 13, 7, 8, 9, 10, 11, 12] rfl
          have hD9 : va_D A ([(r0, rdC ov (va_rf ol) r1 r2 r3 r4 r5), (r1, chC cf cl zn 0), (r2, chC cf cl zn 1), (r3, chC cf cl zn 2), (r4, chC cf cl zn 3), (r5, tlC cI tf), (h0, snC n0 k0 g0 sv h1 h2 h7), (h1, tmC tv), (h2, boC h3 h5 bv), (h3, mkC h4), (h4, .inl (cJ, 4, .inr (.inl f))), (h5, mkC h6), (h6, .inl (cJ, 4, .inr (.inl g))), (h7, cuC cv)] ++ va_pl L (pf cJ kd pi bd af bo)) := hD.part [0, 1, 2, 3, 4, 5, 6, 13, 7, 8, 9, 10, 11, 12] (by decide) rfl
          exact W.vret hx hb hr (fun t ht hW => ⟨⟨(), rfl, trivial, ⟨sv, tv, bv, cv, f, g, ov, tf, ol, cf, cl, zn, xl, tag, L, kd, pi, bd, af, bo, 0, go, gq, ⟨⟨hR, hPB, hZ, hT, by rw [ht]; exact hg0, by omega, hLK, hQ⟩, ⟨hG, hJ⟩, (by rw [← hRES, hE]), (by rw [← hRES, hE]), (by rw [← hRES, hE]), (by rw [← hRES, hE]), (by rw [← hRES, hE]), (by rw [← hRES, hE]), (by rw [← hRES, hE]), (by rw [← hRES, hE]), (by rw [← hRES, hE]), (by rw [← hRES, hE])⟩, by rw [ht]; exact hP9, va_K.moved hW.alike hK, hD9⟩⟩, hS.F ht⟩) hS.2.2 dX8_lookAtTimer_69
        · have hE := hE.trans (if_neg c_59)
          refine lv_aload_n hx hb dX8_lookAtTimer_63 rfl (lv_at hl 0 rfl) ?_
          refine lv_aload_n hx hb dX8_lookAtTimer_64 rfl (lv_at hl 1 rfl) ?_
          refine lv_iload_n hx hb dX8_lookAtTimer_65 rfl (lv_at hl 2 rfl) ?_
          have hPc := hP.part (X := [(r0, rdC ov (va_rf ol) r1 r2 r3 r4 r5), (r1, chC cf cl zn 0), (r2, chC cf cl zn 1), (r3, chC cf cl zn 2), (r4, chC cf cl zn 3), (r5, tlC cI tf), (h0, snC n0 k0 g0 sv h1 h2 h7), (h2, boC h3 h5 bv), (h3, mkC h4), (h4, .inl (cJ, 4, .inr (.inl f))), (h5, mkC h6), (h6, .inl (cJ, 4, .inr (.inl g))), (h7, cuC cv), (h1, tmC tv)]) (cx := [(r0, rdC ov (va_rf ol) r1 r2 r3 r4 r5), (r1, chC cf cl zn 0), (r2, chC cf cl zn 1), (r3, chC cf cl zn 2), (r4, chC cf cl zn 3), (r5, tlC cI tf), (h0, snC n0 k0 g0 sv h1 h2 h7), (h1, tmC tv), (h2, boC h3 h5 bv), (h3, mkC h4), (h4, .inl (cJ, 4, .inr (.inl f))), (h5, mkC h6), (h6, .inl (cJ, 4, .inr (.inl g))), (h7, cuC cv)]) (pl := va_pl L (pf cJ kd pi bd af bo)) [0, 1, 2, 3, 4, 5, 6, 13, 7, 8, 9, 10, 11, 12] rfl
          have hDc := hD.part (X := [(r0, rdC ov (va_rf ol) r1 r2 r3 r4 r5), (r1, chC cf cl zn 0), (r2, chC cf cl zn 1), (r3, chC cf cl zn 2), (r4, chC cf cl zn 3), (r5, tlC cI tf), (h0, snC n0 k0 g0 sv h1 h2 h7), (h2, boC h3 h5 bv), (h3, mkC h4), (h4, .inl (cJ, 4, .inr (.inl f))), (h5, mkC h6), (h6, .inl (cJ, 4, .inr (.inl g))), (h7, cuC cv), (h1, tmC tv)]) (cx := [(r0, rdC ov (va_rf ol) r1 r2 r3 r4 r5), (r1, chC cf cl zn 0), (r2, chC cf cl zn 1), (r3, chC cf cl zn 2), (r4, chC cf cl zn 3), (r5, tlC cI tf), (h0, snC n0 k0 g0 sv h1 h2 h7), (h1, tmC tv), (h2, boC h3 h5 bv), (h3, mkC h4), (h4, .inl (cJ, 4, .inr (.inl f))), (h5, mkC h6), (h6, .inl (cJ, 4, .inr (.inl g))), (h7, cuC cv)]) (pl := va_pl L (pf cJ kd pi bd af bo)) [0, 1, 2, 3, 4, 5, 6, 13, 7, 8, 9, 10, 11, 12] (by decide) rfl
          have hFc := va_freeP (X := [(r0, rdC ov (va_rf ol) r1 r2 r3 r4 r5), (r1, chC cf cl zn 0), (r2, chC cf cl zn 1), (r3, chC cf cl zn 2), (r4, chC cf cl zn 3), (r5, tlC cI tf), (h0, snC n0 k0 g0 sv h1 h2 h7), (h2, boC h3 h5 bv), (h3, mkC h4), (h4, .inl (cJ, 4, .inr (.inl f))), (h5, mkC h6), (h6, .inl (cJ, 4, .inr (.inl g))), (h7, cuC cv), (h1, tmC tv)]) (cx := [(r0, rdC ov (va_rf ol) r1 r2 r3 r4 r5), (r1, chC cf cl zn 0), (r2, chC cf cl zn 1), (r3, chC cf cl zn 2), (r4, chC cf cl zn 3), (r5, tlC cI tf), (h0, snC n0 k0 g0 sv h1 h2 h7), (h1, tmC tv), (h2, boC h3 h5 bv), (h3, mkC h4), (h4, .inl (cJ, 4, .inr (.inl f))), (h5, mkC h6), (h6, .inl (cJ, 4, .inr (.inl g))), (h7, cuC cv)]) (pl := va_pl L (pf cJ kd pi bd af bo)) hD hS hA [0, 1, 2, 3, 4, 5, 6, 13, 7, 8, 9, 10, 11, 12] rfl
          refine W.know2 (fun hka hkb => ?_)
          have hg0 : gr s.heap _ 0 := ⟨hka, hkb⟩
          have hle0 := hS.1
          refine va_callv (va_runV (As := [.ref r0, .int n1]) (rest := []) ⟨hx, hb, hml, hown, ha⟩ (s_probe l D cI cJ cZ cO _ r0 r1 r2 r3 r4 r5 ov ol cf cl zn xl tag L kd pi bd af bo go gq gw ga tf h0 h1 h2 h3 h4 h5 h6 h7 n0 k0 g0 sv tv bv cv f g n1 hR hPB hZ hG hJ hT hLK hq0) (cwV 2 ha (gaV kl_X8_123 km_X8_probe ks_X8_probe kz_X8 kd_X8_probe) rfl rfl rfl (by decide +kernel) ⟨Nat.le_of_ble_eq_true rfl, Nat.le_of_ble_eq_true rfl⟩) ⟨pw_blindh, va_recv hK hPc (ci := 8) (q0 := 6) rfl rfl, fun U hU hW => ⟨rfl, pw_starth hU hW hPc hK hDc hN⟩⟩ rfl rfl hl.1 rfl (lv_room (Nat.le_of_ble_eq_true rfl)) dX8_lookAtTimer_66 ⟨Nat.le_of_ble_eq_true rfl, Nat.le_of_ble_eq_true rfl⟩) hS (fun q _ h => hFc q h) hFc (fun u t H1 locs ht hvm hw hB hz1 hk1 hS => ?_)
          obtain ⟨sv, tv, bv, cv, f, g, ov, tf, ol, cf, cl, zn, xl, tag, L, kd, pi, bd, af, bo, q_81, go, gq, ⟨hf_84, ⟨hG, hJ⟩, hX0, hX1, hX2, hX3, hX4, hX5, hX6, hX7, hX8, hX9⟩, hP1, hK1, hD1⟩ := hB
          have hE := bd_at rfl hE
          have hE := bd_at hX0 hE
          have hE := bd_at hX1 hE
          have hE := bd_at hX2 hE
          have hE := bd_at hX3 hE
          have hE := bd_at hX4 hE
          have hE := bd_at hX5 hE
          have hE := bd_at hX6 hE
          have hE := bd_at hX7 hE
          have hE := bd_at hX8 hE
          have hE := bd_at hX9 hE
          rw [ht] at hP1
          rw [ht] at hf_84
          obtain ⟨hP, hD⟩ := va_joinP (wr := []) (rx := [(r0, rdC ov (va_rf ol) r1 r2 r3 r4 r5), (r1, chC cf cl zn 0), (r2, chC cf cl zn 1), (r3, chC cf cl zn 2), (r4, chC cf cl zn 3), (r5, tlC cI tf), (h0, snC n0 k0 g0 sv h1 h2 h7), (h1, tmC tv), (h2, boC h3 h5 bv), (h3, mkC h4), (h4, .inl (cJ, 4, .inr (.inl f))), (h5, mkC h6), (h6, .inl (cJ, 4, .inr (.inl g))), (h7, cuC cv)]) (pl1 := va_pl L (pf cJ kd pi bd af bo)) hP hD [0, 1, 2, 3, 4, 5, 6, 13, 7, 8, 9, 10, 11, 12] [] rfl rfl (by decide) (by decide) hk1 hFc hP1 hD1
          generalize H1 = H at hP hS hf_84 ⊢
          have hP : va_P D vwCl ([(r0, rdC ov (va_rf ol) r1 r2 r3 r4 r5), (r1, chC cf cl zn 0), (r2, chC cf cl zn 1), (r3, chC cf cl zn 2), (r4, chC cf cl zn 3), (r5, tlC cI tf), (h0, snC n0 k0 g0 sv h1 h2 h7), (h1, tmC tv), (h2, boC h3 h5 bv), (h3, mkC h4), (h4, .inl (cJ, 4, .inr (.inl f))), (h5, mkC h6), (h6, .inl (cJ, 4, .inr (.inl g))), (h7, cuC cv)] ++ va_pl L (pf cJ kd pi bd af bo)) H := hP
          have hD : va_D A ([(r0, rdC ov (va_rf ol) r1 r2 r3 r4 r5), (r1, chC cf cl zn 0), (r2, chC cf cl zn 1), (r3, chC cf cl zn 2), (r4, chC cf cl zn 3), (r5, tlC cI tf), (h0, snC n0 k0 g0 sv h1 h2 h7), (h1, tmC tv), (h2, boC h3 h5 bv), (h3, mkC h4), (h4, .inl (cJ, 4, .inr (.inl f))), (h5, mkC h6), (h6, .inl (cJ, 4, .inr (.inl g))), (h7, cuC cv)] ++ va_pl L (pf cJ kd pi bd af bo)) := hD
          refine W.widen (k := 2) (n := 11) (Nat.le_of_ble_eq_true rfl) (Nat.le_of_ble_eq_true rfl) ?_
          have hR := hf_84.1
          have hPB := hf_84.2.1
          have hZ := hf_84.2.2.1
          have hT := hf_84.2.2.2.1
          have hg0 := gr_trans hle0 hg0 hf_84.2.2.2.2.1
          have hb1 := hf_84.2.2.2.2.2.1
          have hLK := hf_84.2.2.2.2.2.2.1
          have hq0 := (hf_84.2.2.2.2.2.2.2.2.2.2.2 hq0).1
          have hQ := QQ_trans hQ hf_84.2.2.2.2.2.2.2
          refine W.grown hg0 ?_
          refine W.know2 (fun hk1 hk2 => ?_)
          have hg0 : gr s.heap _ (0 + q_81) := ⟨hk1, hk2⟩
          refine W.widen (k := 2) (n := 11) (by omega) (by omega) ?_
          have hP9 : va_P D vwCl ([(r0, rdC ov (va_rf ol) r1 r2 r3 r4 r5), (r1, chC cf cl zn 0), (r2, chC cf cl zn 1), (r3, chC cf cl zn 2), (r4, chC cf cl zn 3), (r5, tlC cI tf), (h0, snC n0 k0 g0 sv h1 h2 h7), (h1, tmC tv), (h2, boC h3 h5 bv), (h3, mkC h4), (h4, .inl (cJ, 4, .inr (.inl f))), (h5, mkC h6), (h6, .inl (cJ, 4, .inr (.inl g))), (h7, cuC cv)] ++ va_pl L (pf cJ kd pi bd af bo)) _ := hP
          have hD9 : va_D A ([(r0, rdC ov (va_rf ol) r1 r2 r3 r4 r5), (r1, chC cf cl zn 0), (r2, chC cf cl zn 1), (r3, chC cf cl zn 2), (r4, chC cf cl zn 3), (r5, tlC cI tf), (h0, snC n0 k0 g0 sv h1 h2 h7), (h1, tmC tv), (h2, boC h3 h5 bv), (h3, mkC h4), (h4, .inl (cJ, 4, .inr (.inl f))), (h5, mkC h6), (h6, .inl (cJ, 4, .inr (.inl g))), (h7, cuC cv)] ++ va_pl L (pf cJ kd pi bd af bo)) := hD
          exact W.vret hx hb hr (fun t ht hW => ⟨⟨(), rfl, trivial, ⟨sv, tv, bv, cv, f, g, ov, tf, ol, cf, cl, zn, xl, tag, L, kd, pi, bd, af, bo, (0 + q_81), go, gq, ⟨⟨hR, hPB, hZ, hT, by rw [ht]; exact hg0, by omega, hLK, hQ⟩, ⟨hG, hJ⟩, (by rw [← hRES, hE]), (by rw [← hRES, hE]), (by rw [← hRES, hE]), (by rw [← hRES, hE]), (by rw [← hRES, hE]), (by rw [← hRES, hE]), (by rw [← hRES, hE]), (by rw [← hRES, hE]), (by rw [← hRES, hE]), (by rw [← hRES, hE])⟩, by rw [ht]; exact hP9, va_K.moved hW.alike hK, hD9⟩⟩, hS.F ht⟩) hS.2.2 dX8_lookAtTimer_69
    · have hE := hE.trans (if_neg c_55)
      refine lv_aload_n hx hb dX8_lookAtTimer_38 rfl (lv_at hl 0 rfl) ?_
      have hPc := hP.sub (ws' := [(h0, snC n0 k0 g0 sv h1 h2 h7), (h1, tmC tv), (h2, boC h3 h5 bv), (h3, mkC h4), (h4, .inl (cJ, 4, .inr (.inl f))), (h5, mkC h6), (h6, .inl (cJ, 4, .inr (.inl g))), (h7, cuC cv)]) [6, 13, 7, 8, 9, 10, 11, 12] rfl
      have hDc := hD.sub (ws' := [(h0, snC n0 k0 g0 sv h1 h2 h7), (h1, tmC tv), (h2, boC h3 h5 bv), (h3, mkC h4), (h4, .inl (cJ, 4, .inr (.inl f))), (h5, mkC h6), (h6, .inl (cJ, 4, .inr (.inl g))), (h7, cuC cv)]) [6, 13, 7, 8, 9, 10, 11, 12] (by decide) rfl
      have hFc := va_free (wc := [(h0, snC n0 k0 g0 sv h1 h2 h7), (h1, tmC tv), (h2, boC h3 h5 bv), (h3, mkC h4), (h4, .inl (cJ, 4, .inr (.inl f))), (h5, mkC h6), (h6, .inl (cJ, 4, .inr (.inl g))), (h7, cuC cv)]) hD hS hA [6, 13, 7, 8, 9, 10, 11, 12] rfl
      refine va_callv (va_runV (As := []) (rest := []) ⟨hx, hb, hml, hown, ha⟩ (s_timeOut l D cI cJ cZ cO _ h0 h1 h2 h3 h4 h5 h6 h7 n0 k0 g0 sv tv bv cv f g) (cwV 0 ha (gaV kl_X8_120 km_X8_timeOut ks_X8_timeOut kz_X8 kd_X8_timeOut) rfl rfl rfl (by decide +kernel) ⟨Nat.le_of_ble_eq_true rfl, Nat.le_of_ble_eq_true rfl⟩) ⟨pw_blind, va_recv hK hPc (ci := 8) (q0 := 0) rfl rfl, fun U hU hW => ⟨rfl, pw_start hU hW hPc hK hDc hN⟩⟩ rfl rfl hl.1 rfl (lv_room (Nat.le_of_ble_eq_true rfl)) dX8_lookAtTimer_39 ⟨Nat.le_of_ble_eq_true rfl, Nat.le_of_ble_eq_true rfl⟩) hS (fun q _ h => hFc q h) hFc (fun u t H1 locs ht hvm hw hB hz1 hk1 hS => ?_)
      obtain ⟨sv, tv, bv, cv, f, g, ⟨hX0, hX1, hX2, hX3, hX4, hX5⟩, hP1, hK1, hD1⟩ := hB
      have hE := bd_at rfl hE
      have hE := bd_at hX0 hE
      have hE := bd_at hX1 hE
      have hE := bd_at hX2 hE
      have hE := bd_at hX3 hE
      have hE := bd_at hX4 hE
      have hE := bd_at hX5 hE
      rw [ht] at hP1
      obtain ⟨hP, hD⟩ := va_joinQ (wr := [(r0, rdC ov (va_rf ol) r1 r2 r3 r4 r5), (r1, chC cf cl zn 0), (r2, chC cf cl zn 1), (r3, chC cf cl zn 2), (r4, chC cf cl zn 3), (r5, tlC cI tf)]) (w1 := [(h0, snC n0 k0 g0 sv h1 h2 h7), (h1, tmC tv), (h2, boC h3 h5 bv), (h3, mkC h4), (h4, .inl (cJ, 4, .inr (.inl f))), (h5, mkC h6), (h6, .inl (cJ, 4, .inr (.inl g))), (h7, cuC cv)]) hP hD [6, 13, 7, 8, 9, 10, 11, 12] [0, 1, 2, 3, 4, 5] rfl rfl (by decide) (by decide) hk1 hFc hP1 hD1
      generalize H1 = H at hP hS ⊢
      have hP : va_P D vwCl ([(r0, rdC ov (va_rf ol) r1 r2 r3 r4 r5), (r1, chC cf cl zn 0), (r2, chC cf cl zn 1), (r3, chC cf cl zn 2), (r4, chC cf cl zn 3), (r5, tlC cI tf), (h0, snC n0 k0 g0 sv h1 h2 h7), (h1, tmC tv), (h2, boC h3 h5 bv), (h3, mkC h4), (h4, .inl (cJ, 4, .inr (.inl f))), (h5, mkC h6), (h6, .inl (cJ, 4, .inr (.inl g))), (h7, cuC cv)] ++ va_pl L (pf cJ kd pi bd af bo)) H := hP
      have hD : va_D A ([(r0, rdC ov (va_rf ol) r1 r2 r3 r4 r5), (r1, chC cf cl zn 0), (r2, chC cf cl zn 1), (r3, chC cf cl zn 2), (r4, chC cf cl zn 3), (r5, tlC cI tf), (h0, snC n0 k0 g0 sv h1 h2 h7), (h1, tmC tv), (h2, boC h3 h5 bv), (h3, mkC h4), (h4, .inl (cJ, 4, .inr (.inl f))), (h5, mkC h6), (h6, .inl (cJ, 4, .inr (.inl g))), (h7, cuC cv)] ++ va_pl L (pf cJ kd pi bd af bo)) := hD
      refine W.widen (k := 0) (n := 0) (Nat.le_of_ble_eq_true rfl) (Nat.le_of_ble_eq_true rfl) ?_
      refine lv_goto (tgt := 69) hx hb dX8_lookAtTimer_42 (by decide) ?_
      refine W.know2 (fun hk1 hk2 => ?_)
      have hg0 : gr s.heap _ 0 := ⟨hk1, hk2⟩
      refine W.widen (k := 2) (n := 11) (Nat.le_of_ble_eq_true rfl) (Nat.le_of_ble_eq_true rfl) ?_
      have hP9 : va_P D vwCl ([(r0, rdC ov (va_rf ol) r1 r2 r3 r4 r5), (r1, chC cf cl zn 0), (r2, chC cf cl zn 1), (r3, chC cf cl zn 2), (r4, chC cf cl zn 3), (r5, tlC cI tf), (h0, snC n0 k0 g0 sv h1 h2 h7), (h1, tmC tv), (h2, boC h3 h5 bv), (h3, mkC h4), (h4, .inl (cJ, 4, .inr (.inl f))), (h5, mkC h6), (h6, .inl (cJ, 4, .inr (.inl g))), (h7, cuC cv)] ++ va_pl L (pf cJ kd pi bd af bo)) _ := hP
      have hD9 : va_D A ([(r0, rdC ov (va_rf ol) r1 r2 r3 r4 r5), (r1, chC cf cl zn 0), (r2, chC cf cl zn 1), (r3, chC cf cl zn 2), (r4, chC cf cl zn 3), (r5, tlC cI tf), (h0, snC n0 k0 g0 sv h1 h2 h7), (h1, tmC tv), (h2, boC h3 h5 bv), (h3, mkC h4), (h4, .inl (cJ, 4, .inr (.inl f))), (h5, mkC h6), (h6, .inl (cJ, 4, .inr (.inl g))), (h7, cuC cv)] ++ va_pl L (pf cJ kd pi bd af bo)) := hD
      exact W.vret hx hb hr (fun t ht hW => ⟨⟨(), rfl, trivial, ⟨sv, tv, bv, cv, f, g, ov, tf, ol, cf, cl, zn, xl, tag, L, kd, pi, bd, af, bo, 0, go, gq, ⟨⟨hR, hPB, hZ, hT, by rw [ht]; exact hg0, by omega, hLK, hQ⟩, ⟨hG, hJ⟩, (by rw [← hRES, hE]), (by rw [← hRES, hE]), (by rw [← hRES, hE]), (by rw [← hRES, hE]), (by rw [← hRES, hE]), (by rw [← hRES, hE]), (by rw [← hRES, hE]), (by rw [← hRES, hE]), (by rw [← hRES, hE]), (by rw [← hRES, hE])⟩, by rw [ht]; exact hP9, va_K.moved hW.alike hK, hD9⟩⟩, hS.F ht⟩) hS.2.2 dX8_lookAtTimer_69
  · have hE := hE.trans (if_neg c_48)
    refine W.know2 (fun hk1 hk2 => ?_)
    have hg0 : gr s.heap _ 0 := ⟨hk1, hk2⟩
    refine W.widen (k := 2) (n := 11) (Nat.le_of_ble_eq_true rfl) (Nat.le_of_ble_eq_true rfl) ?_
    have hP9 : va_P D vwCl ([(r0, rdC ov (va_rf ol) r1 r2 r3 r4 r5), (r1, chC cf cl zn 0), (r2, chC cf cl zn 1), (r3, chC cf cl zn 2), (r4, chC cf cl zn 3), (r5, tlC cI tf), (h0, snC n0 k0 g0 sv h1 h2 h7), (h1, tmC tv), (h2, boC h3 h5 bv), (h3, mkC h4), (h4, .inl (cJ, 4, .inr (.inl f))), (h5, mkC h6), (h6, .inl (cJ, 4, .inr (.inl g))), (h7, cuC cv)] ++ va_pl L (pf cJ kd pi bd af bo)) _ := hP
    have hD9 : va_D A ([(r0, rdC ov (va_rf ol) r1 r2 r3 r4 r5), (r1, chC cf cl zn 0), (r2, chC cf cl zn 1), (r3, chC cf cl zn 2), (r4, chC cf cl zn 3), (r5, tlC cI tf), (h0, snC n0 k0 g0 sv h1 h2 h7), (h1, tmC tv), (h2, boC h3 h5 bv), (h3, mkC h4), (h4, .inl (cJ, 4, .inr (.inl f))), (h5, mkC h6), (h6, .inl (cJ, 4, .inr (.inl g))), (h7, cuC cv)] ++ va_pl L (pf cJ kd pi bd af bo)) := hD
    exact W.vret hx hb hr (fun t ht hW => ⟨⟨(), rfl, trivial, ⟨sv, tv, bv, cv, f, g, ov, tf, ol, cf, cl, zn, xl, tag, L, kd, pi, bd, af, bo, 0, go, gq, ⟨⟨hR, hPB, hZ, hT, by rw [ht]; exact hg0, by omega, hLK, hQ⟩, ⟨hG, hJ⟩, (by rw [← hRES, hE]), (by rw [← hRES, hE]), (by rw [← hRES, hE]), (by rw [← hRES, hE]), (by rw [← hRES, hE]), (by rw [← hRES, hE]), (by rw [← hRES, hE]), (by rw [← hRES, hE]), (by rw [← hRES, hE]), (by rw [← hRES, hE])⟩, by rw [ht]; exact hP9, va_K.moved hW.alike hK, hD9⟩⟩, hS.F ht⟩) hS.2.2 dX8_lookAtTimer_11
