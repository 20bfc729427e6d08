set_option maxRecDepth 100000 in
def xc_hearRec (ov : Nat → Int32) (go : Option S4) (gq : List S3) (tf : Nat → Int32) (n0 : Int32) (k0 : Int32) (g0 : Int32) (sv : Nat → Int32) (tv : Nat → Int32) (bv : Nat → Int32) (cv : Nat → Int32) (f : Nat → Int64) (g : Nat → Int64) (n1 : Int32) (n2 : Int32) : (Nat → Int32) × (Nat → Int32) × (Nat → Int32) × (Nat → Int32) × (Nat → Int64) × (Nat → Int64) × (Nat → Int32) × (Nat → Int32) × (Option S4) × (List S3) := (if k0 = (0 : Int32) then bd (sv 8) (fun v1 => bd (xc_setCwnd n0 k0 g0 sv tv bv cv f g v1) (fun t2 => bd (t2.1) (fun sv => bd (t2.2.1) (fun tv => bd (t2.2.2.1) (fun bv => bd (t2.2.2.2.1) (fun cv => bd (t2.2.2.2.2.1) (fun f => bd (t2.2.2.2.2.2) (fun g => bd (upd sv 11 (0 : Int32)) (fun sv => bd (upd sv 10 (0 : Int32)) (fun sv => (sv, tv, bv, cv, f, g, ov, tf, go, gq))))))))))) else bd (sv 3) (fun v3 => bd (sv 12) (fun v4 => (if v3 < v4 then (if k0 = (3 : Int32) then (sv, tv, bv, cv, f, g, ov, tf, go, gq) else bd (sv 3) (fun v5 => bd (xc_transmit ov go gq tf n0 k0 g0 sv tv bv cv f g v5 n2) (fun t6 => bd (t6.1) (fun sv => bd (t6.2.1) (fun tv => bd (t6.2.2.1) (fun bv => bd (t6.2.2.2.1) (fun cv => bd (t6.2.2.2.2.1) (fun f => bd (t6.2.2.2.2.2.1) (fun g => bd (t6.2.2.2.2.2.2.1) (fun ov => bd (t6.2.2.2.2.2.2.2.1) (fun tf => bd (t6.2.2.2.2.2.2.2.2.1) (fun go => bd (t6.2.2.2.2.2.2.2.2.2) (fun gq => bd (sv 6) (fun v7 => bd ((1024 : Int32) * n1) (fun v8 => bd (v7 - v8) (fun v9 => bd (v9 + (1024 : Int32)) (fun v10 => bd (if (1024 : Int32) < v10 then v10 else (1024 : Int32)) (fun v11 => bd (xc_setCwnd n0 k0 g0 sv tv bv cv f g v11) (fun t12 => bd (t12.1) (fun sv => bd (t12.2.1) (fun tv => bd (t12.2.2.1) (fun bv => bd (t12.2.2.2.1) (fun cv => bd (t12.2.2.2.2.1) (fun f => bd (t12.2.2.2.2.2) (fun g => (sv, tv, bv, cv, f, g, ov, tf, go, gq)))))))))))))))))))))))))) else bd (sv 8) (fun v13 => bd (xc_setCwnd n0 k0 g0 sv tv bv cv f g v13) (fun t14 => bd (t14.1) (fun sv => bd (t14.2.1) (fun tv => bd (t14.2.2.1) (fun bv => bd (t14.2.2.2.1) (fun cv => bd (t14.2.2.2.2.1) (fun f => bd (t14.2.2.2.2.2) (fun g => bd (upd sv 11 (0 : Int32)) (fun sv => bd (upd sv 10 (0 : Int32)) (fun sv => (sv, tv, bv, cv, f, g, ov, tf, go, gq)))))))))))))))
set_option maxHeartbeats 4000000 in
set_option maxRecDepth 100000 in
theorem s_hearRec (l : Launch) (D : va_G) (cI cJ cZ cO : ClassId) (Hh : Heap) (r0 r1 r2 r3 r4 r5 : Nat) (ov : Nat → Int32) (ol : Option Nat) (cf cl : Nat → Option Nat) (zn : Nat → Int32) (xl : Nat → List Nat) (tag : Nat → Nat) (L : List Nat) (kd : Nat → Bool) (pi : Nat → Nat → Int32) (bd : Nat → Nat) (af : Nat → Option Nat) (bo : Nat → Nat → Int64) (go : Option S4) (gq : List S3) (gw : List S4) (ga : List A6) (tf : Nat → Int32) (h0 h1 h2 h3 h4 h5 h6 h7 : Nat) (n0 k0 g0 : Int32) (sv tv bv cv : Nat → Int32) (f g : Nat → Int64) (n1 n2 : Int32) (hR : RI L kd af tag cf cl xl ol) (hPB : PB L kd pi bd) (hZ : ZN zn xl) (hG : GG xl pi bd bo ol go gq gw ga) (hJ : JB L kd bd) (hT : 0 ≤ ov 10) (hLK : LK ov) (hq0 : (xl 0).length ≤ 100) : Met l yX8_hearInRecovery (wa yX8_hearInRecovery cX8_hearInRecovery 4 none) ({ frames := 4, cells := 2, slots := 11, locals := 90 }) (va_Pc [.ref h0, .int n1, .ref r0, .int n2] (pw_h D cI cJ cZ cO Hh ([(r0, rdC ov (va_rf ol) r1 r2 r3 r4 r5), (r1, chC cf cl zn 0), (r2, chC cf cl zn 1), (r3, chC cf cl zn 2), (r4, chC cf cl zn 3), (r5, tlC cI tf), (h0, snC n0 k0 g0 sv h1 h2 h7), (h1, tmC tv), (h2, boC h3 h5 bv), (h3, mkC h4), (h4, .inl (cJ, 4, .inr (.inl f))), (h5, mkC h6), (h6, .inl (cJ, 4, .inr (.inl g))), (h7, cuC cv)] ++ va_pl L (pf cJ kd pi bd af bo)))) (va_Qv (fun (_ : Unit) => True) (fun (_ : Unit) (t : State) => ∃ (sv2 tv2 bv2 cv2 : Nat → Int32) (f2 g2 : Nat → Int64) (ov2 tf2 : Nat → Int32) (ol2 : Option Nat) (cf2 cl2 : Nat → Option Nat) (zn2 : Nat → Int32) (xl2 : Nat → List Nat) (tag2 : Nat → Nat) (L2 : List Nat) (kd2 : Nat → Bool) (pi2 : Nat → Nat → Int32) (bd2 : Nat → Nat) (af2 : Nat → Option Nat) (bo2 : Nat → Nat → Int64) (b2 : Nat) (go2 : Option S4) (gq2 : List S3), ((RI L2 kd2 af2 tag2 cf2 cl2 xl2 ol2 ∧ PB L2 kd2 pi2 bd2 ∧ ZN zn2 xl2 ∧ 0 ≤ ov2 10 ∧ gr Hh t.heap b2 ∧ b2 ≤ 1 ∧ LK ov2 ∧ QQ L kd tag xl pi ol L2 kd2 tag2 xl2 pi2 ol2 [] [] b2 0) ∧ (GG xl2 pi2 bd2 bo2 ol2 go2 gq2 gw ga ∧ JB L2 kd2 bd2) ∧ sv2 = (xc_hearRec ov go gq tf n0 k0 g0 sv tv bv cv f g n1 n2).1 ∧ tv2 = (xc_hearRec ov go gq tf n0 k0 g0 sv tv bv cv f g n1 n2).2.1 ∧ bv2 = (xc_hearRec ov go gq tf n0 k0 g0 sv tv bv cv f g n1 n2).2.2.1 ∧ cv2 = (xc_hearRec ov go gq tf n0 k0 g0 sv tv bv cv f g n1 n2).2.2.2.1 ∧ f2 = (xc_hearRec ov go gq tf n0 k0 g0 sv tv bv cv f g n1 n2).2.2.2.2.1 ∧ g2 = (xc_hearRec ov go gq tf n0 k0 g0 sv tv bv cv f g n1 n2).2.2.2.2.2.1 ∧ ov2 = (xc_hearRec ov go gq tf n0 k0 g0 sv tv bv cv f g n1 n2).2.2.2.2.2.2.1 ∧ tf2 = (xc_hearRec ov go gq tf n0 k0 g0 sv tv bv cv f g n1 n2).2.2.2.2.2.2.2.1 ∧ go2 = (xc_hearRec ov go gq tf n0 k0 g0 sv tv bv cv f g n1 n2).2.2.2.2.2.2.2.2.1 ∧ gq2 = (xc_hearRec ov go gq tf n0 k0 g0 sv tv bv cv f g n1 n2).2.2.2.2.2.2.2.2.2) ∧ pw_t D cI cJ cZ cO (va_A ([(r0, rdC ov (va_rf ol) r1 r2 r3 r4 r5), (r1, chC cf cl zn 0), (r2, chC cf cl zn 1), (r3, chC cf cl zn 2), (r4, chC cf cl zn 3), (r5, tlC cI tf), (h0, snC n0 k0 g0 sv h1 h2 h7), (h1, tmC tv), (h2, boC h3 h5 bv), (h3, mkC h4), (h4, .inl (cJ, 4, .inr (.inl f))), (h5, mkC h6), (h6, .inl (cJ, 4, .inr (.inl g))), (h7, cuC cv)] ++ va_pl L (pf cJ kd pi bd af bo)) Hh.size) ([(r0, rdC ov2 (va_rf ol2) r1 r2 r3 r4 r5), (r1, chC cf2 cl2 zn2 0), (r2, chC cf2 cl2 zn2 1), (r3, chC cf2 cl2 zn2 2), (r4, chC cf2 cl2 zn2 3), (r5, tlC cI tf2), (h0, snC n0 k0 g0 sv2 h1 h2 h7), (h1, tmC tv2), (h2, boC h3 h5 bv2), (h3, mkC h4), (h4, .inl (cJ, 4, .inr (.inl f2))), (h5, mkC h6), (h6, .inl (cJ, 4, .inr (.inl g2))), (h7, cuC cv2)] ++ va_pl L2 (pf cJ kd2 pi2 bd2 af2 bo2)) t) (va_A ([(r0, rdC ov (va_rf ol) r1 r2 r3 r4 r5), (r1, chC cf cl zn 0), (r2, chC cf cl zn 1), (r3, chC cf cl zn 2), (r4, chC cf cl zn 3), (r5, tlC cI tf), (h0, snC n0 k0 g0 sv h1 h2 h7), (h1, tmC tv), (h2, boC h3 h5 bv), (h3, mkC h4), (h4, .inl (cJ, 4, .inr (.inl f))), (h5, mkC h6), (h6, .inl (cJ, 4, .inr (.inl g))), (h7, cuC cv)] ++ va_pl L (pf cJ kd pi bd af bo)) Hh.size)) 2 11 (va_A ([(r0, rdC ov (va_rf ol) r1 r2 r3 r4 r5), (r1, chC cf cl zn 0), (r2, chC cf cl zn 1), (r3, chC cf cl zn 2), (r4, chC cf cl zn 3), (r5, tlC cI tf), (h0, snC n0 k0 g0 sv h1 h2 h7), (h1, tmC tv), (h2, boC h3 h5 bv), (h3, mkC h4), (h4, .inl (cJ, 4, .inr (.inl f))), (h5, mkC h6), (h6, .inl (cJ, 4, .inr (.inl g))), (h7, cuC cv)] ++ va_pl L (pf cJ kd pi bd af bo)) Hh.size) := by
  refine Met.ofW (cc := cX8_hearInRecovery) (maxL := 4) (ret := none) (by decide) rfl ?_
  intro p e s m args below meth c s₁ B hml hv
  obtain ⟨rfl, hsz, hP, hK, hD0, hN⟩ := hv
  have hx := B.exec
  have hb := B.bytes
  have hr := B.returns
  have hts := atoms_spec (ws := (wa yX8_hearInRecovery cX8_hearInRecovery 4 none)) B.pre
  have ha : ∀ w ∈ wsL_law, w.before _ s = true := fun w h => hts w (List.mem_cons_of_mem _ h)
  have hown : s.vm.findClass RX8 = some m.cls := findClass_of_methodNamed B.named
  have hlocks := B.notSynchronized
  subst hsz
  have hD := hD0.self (sz := s.heap.size)
  generalize hAe : va_A ([(r0, rdC ov (va_rf ol) r1 r2 r3 r4 r5), (r1, chC cf cl zn 0), (r2, chC cf cl zn 1), (r3, chC cf cl zn 2), (r4, chC cf cl zn 3), (r5, tlC cI tf), (h0, snC n0 k0 g0 sv h1 h2 h7), (h1, tmC tv), (h2, boC h3 h5 bv), (h3, mkC h4), (h4, .inl (cJ, 4, .inr (.inl f))), (h5, mkC h6), (h6, .inl (cJ, 4, .inr (.inl g))), (h7, cuC cv)] ++ va_pl L (pf cJ kd pi bd af bo)) s.heap.size = A at hD ⊢
  have hA : ∀ q : Nat, s.heap.size ≤ q → A q := fun q h => by rw [← hAe]; exact Or.inr h
  have hS : va_S A s.heap s.heap [] := va_S.rf
  have hP : va_P D vwCl ([(r0, rdC ov (va_rf ol) r1 r2 r3 r4 r5), (r1, chC cf cl zn 0), (r2, chC cf cl zn 1), (r3, chC cf cl zn 2), (r4, chC cf cl zn 3), (r5, tlC cI tf), (h0, snC n0 k0 g0 sv h1 h2 h7), (h1, tmC tv), (h2, boC h3 h5 bv), (h3, mkC h4), (h4, .inl (cJ, 4, .inr (.inl f))), (h5, mkC h6), (h6, .inl (cJ, 4, .inr (.inl g))), (h7, cuC cv)] ++ va_pl L (pf cJ kd pi bd af bo)) s.heap := hP
  have hl := lv_entry ([.ref h0, .int n1, .ref r0, .int n2]) (n := 4) (Nat.le_of_ble_eq_true rfl)
  rw [lg_entry_eq]
  generalize (lg_sl ([.ref h0, .int n1, .ref r0, .int n2]) ++ List.replicate (4 - (lg_sl ([.ref h0, .int n1, .ref r0, .int n2])).length) Slot.unset).toArray = ls at hl ⊢
  have hl : lv_has ls 4 [(0, .ref h0), (1, .int n1), (2, .ref r0), (3, .int n2)] := hl
  obtain ⟨QP, hQP⟩ : ∃ y : State → Prop, y = (MQ below (va_Qv (fun (_ : Unit) => True) (fun (_ : Unit) (t : State) => ∃ (sv2 tv2 bv2 cv2 : Nat → Int32) (f2 g2 : Nat → Int64) (ov2 tf2 : Nat → Int32) (ol2 : Option Nat) (cf2 cl2 : Nat → Option Nat) (zn2 : Nat → Int32) (xl2 : Nat → List Nat) (tag2 : Nat → Nat) (L2 : List Nat) (kd2 : Nat → Bool) (pi2 : Nat → Nat → Int32) (bd2 : Nat → Nat) (af2 : Nat → Option Nat) (bo2 : Nat → Nat → Int64) (b2 : Nat) (go2 : Option S4) (gq2 : List S3), ((RI L2 kd2 af2 tag2 cf2 cl2 xl2 ol2 ∧ PB L2 kd2 pi2 bd2 ∧ ZN zn2 xl2 ∧ 0 ≤ ov2 10 ∧ gr s.heap t.heap b2 ∧ b2 ≤ 1 ∧ LK ov2 ∧ QQ L kd tag xl pi ol L2 kd2 tag2 xl2 pi2 ol2 [] [] b2 0) ∧ (GG xl2 pi2 bd2 bo2 ol2 go2 gq2 gw ga ∧ JB L2 kd2 bd2) ∧ sv2 = (xc_hearRec ov go gq tf n0 k0 g0 sv tv bv cv f g n1 n2).1 ∧ tv2 = (xc_hearRec ov go gq tf n0 k0 g0 sv tv bv cv f g n1 n2).2.1 ∧ bv2 = (xc_hearRec ov go gq tf n0 k0 g0 sv tv bv cv f g n1 n2).2.2.1 ∧ cv2 = (xc_hearRec ov go gq tf n0 k0 g0 sv tv bv cv f g n1 n2).2.2.2.1 ∧ f2 = (xc_hearRec ov go gq tf n0 k0 g0 sv tv bv cv f g n1 n2).2.2.2.2.1 ∧ g2 = (xc_hearRec ov go gq tf n0 k0 g0 sv tv bv cv f g n1 n2).2.2.2.2.2.1 ∧ ov2 = (xc_hearRec ov go gq tf n0 k0 g0 sv tv bv cv f g n1 n2).2.2.2.2.2.2.1 ∧ tf2 = (xc_hearRec ov go gq tf n0 k0 g0 sv tv bv cv f g n1 n2).2.2.2.2.2.2.2.1 ∧ go2 = (xc_hearRec ov go gq tf n0 k0 g0 sv tv bv cv f g n1 n2).2.2.2.2.2.2.2.2.1 ∧ gq2 = (xc_hearRec ov go gq tf n0 k0 g0 sv tv bv cv f g n1 n2).2.2.2.2.2.2.2.2.2) ∧ pw_t D cI cJ cZ cO A ([(r0, rdC ov2 (va_rf ol2) r1 r2 r3 r4 r5), (r1, chC cf2 cl2 zn2 0), (r2, chC cf2 cl2 zn2 1), (r3, chC cf2 cl2 zn2 2), (r4, chC cf2 cl2 zn2 3), (r5, tlC cI tf2), (h0, snC n0 k0 g0 sv2 h1 h2 h7), (h1, tmC tv2), (h2, boC h3 h5 bv2), (h3, mkC h4), (h4, .inl (cJ, 4, .inr (.inl f2))), (h5, mkC h6), (h6, .inl (cJ, 4, .inr (.inl g2))), (h7, cuC cv2)] ++ va_pl L2 (pf cJ kd2 pi2 bd2 af2 bo2)) t) A) #[(.ref h0 : Value), (.int n1 : Value), (.ref r0 : Value), (.int n2 : Value)] s 2 11 A) := ⟨_, rfl⟩
  obtain ⟨RES, hRES⟩ : ∃ y, y = (xc_hearRec ov go gq tf n0 k0 g0 sv tv bv cv f g n1 n2) := ⟨_, rfl⟩
  have hQ : QQ L kd tag xl pi ol L kd tag xl pi ol [] [] 0 0 := QQ_rf
  -- from the entry
  have hE := hRES
  unfold xc_hearRec at hE
  refine lv_aload_n hx hb dX8_hearInRecovery_0 rfl (lv_at hl 0 rfl) ?_
  refine va_get (D := D) (ci := 8) (v := .int k0) (C := RX8) (T := TX8) (N := 20) hx hb ha inlX8 hown hK hP 6 rfl rfl 1 (by decide) (ha _ kf_X8_49) (fun _ h9 => h9) rfl dX8_hearInRecovery_1 ?_
  refine lv_if_eq (tgt := 18) hx hb dX8_hearInRecovery_4 (by decide) (fun c_67 => ?_) (fun c_67 => ?_)
  · have hE := hE.trans (if_pos c_67)
    refine lv_aload_n hx hb dX8_hearInRecovery_18 rfl (lv_at hl 0 rfl) ?_
    refine lv_aload_n hx hb dX8_hearInRecovery_19 rfl (lv_at hl 0 rfl) ?_
    refine va_get (D := D) (ci := 8) (v := .int (sv 8)) (C := RX8) (T := TX8) (N := 20) hx hb ha inlX8 hown hK hP 6 rfl rfl 8 (by decide) (ha _ kf_X8_19) (fun _ h9 => h9) rfl dX8_hearInRecovery_20 ?_
    refine lv_topi (fun x_68 ex_68 => ?_)
    have hE := bd_at ex_68 hE
    have hPc := hP.sub (ws' := [(h0, snC n0 k0 g0 sv h1 h2 h7), (h1, tmC tv), (h2, boC h3 h5 bv), (h3, mkC h4), (h4, .inl (cJ, 4, .inr (.inl f))), (h5, mkC h6), (h6, .inl (cJ, 4, .inr (.inl g))), (h7, cuC cv)]) [6, 7, 8, 9, 10, 11, 12, 13] rfl
    have hDc := hD.sub (ws' := [(h0, snC n0 k0 g0 sv h1 h2 h7), (h1, tmC tv), (h2, boC h3 h5 bv), (h3, mkC h4), (h4, .inl (cJ, 4, .inr (.inl f))), (h5, mkC h6), (h6, .inl (cJ, 4, .inr (.inl g))), (h7, cuC cv)]) [6, 7, 8, 9, 10, 11, 12, 13] (by decide) rfl
    have hFc := va_free (wc := [(h0, snC n0 k0 g0 sv h1 h2 h7), (h1, tmC tv), (h2, boC h3 h5 bv), (h3, mkC h4), (h4, .inl (cJ, 4, .inr (.inl f))), (h5, mkC h6), (h6, .inl (cJ, 4, .inr (.inl g))), (h7, cuC cv)]) hD hS hA [6, 7, 8, 9, 10, 11, 12, 13] rfl
    refine va_callv (va_runV (As := [.int x_68]) (rest := []) ⟨hx, hb, hml, hown, ha⟩ (s_setCwnd l D cI cJ cZ cO _ h0 h1 h2 h3 h4 h5 h6 h7 n0 k0 g0 sv tv bv cv f g x_68) (cwV 1 ha (gaV kl_X8_219 km_X8_setCwnd ks_X8_setCwnd kz_X8 kd_X8_setCwnd) rfl rfl rfl (by decide +kernel) ⟨Nat.le_of_ble_eq_true rfl, Nat.le_of_ble_eq_true rfl⟩) ⟨pw_blind, va_recv hK hPc (ci := 8) (q0 := 0) rfl rfl, fun U hU hW => ⟨rfl, pw_start hU hW hPc hK hDc hN⟩⟩ rfl rfl hl.1 rfl (lv_room (Nat.le_of_ble_eq_true rfl)) dX8_hearInRecovery_23 ⟨Nat.le_of_ble_eq_true rfl, Nat.le_of_ble_eq_true rfl⟩) hS (fun q _ h => hFc q h) hFc (fun u t H1 locs ht hvm hw hB hz1 hk1 hS => ?_)
    obtain ⟨sv, tv, bv, cv, f, g, ⟨hX0, hX1, hX2, hX3, hX4, hX5⟩, hP1, hK1, hD1⟩ := hB
    have hE := bd_at rfl hE
    have hE := bd_at hX0 hE
    have hE := bd_at hX1 hE
    have hE := bd_at hX2 hE
    have hE := bd_at hX3 hE
    have hE := bd_at hX4 hE
    have hE := bd_at hX5 hE
    rw [ht] at hP1
    obtain ⟨hP, hD⟩ := va_joinQ (wr := [(r0, rdC ov (va_rf ol) r1 r2 r3 r4 r5), (r1, chC cf cl zn 0), (r2, chC cf cl zn 1), (r3, chC cf cl zn 2), (r4, chC cf cl zn 3), (r5, tlC cI tf)]) (w1 := [(h0, snC n0 k0 g0 sv h1 h2 h7), (h1, tmC tv), (h2, boC h3 h5 bv), (h3, mkC h4), (h4, .inl (cJ, 4, .inr (.inl f))), (h5, mkC h6), (h6, .inl (cJ, 4, .inr (.inl g))), (h7, cuC cv)]) hP hD [6, 7, 8, 9, 10, 11, 12, 13] [0, 1, 2, 3, 4, 5] rfl rfl (by decide) (by decide) hk1 hFc hP1 hD1
    generalize H1 = H at hP hS ⊢
    have hP : va_P D vwCl ([(r0, rdC ov (va_rf ol) r1 r2 r3 r4 r5), (r1, chC cf cl zn 0), (r2, chC cf cl zn 1), (r3, chC cf cl zn 2), (r4, chC cf cl zn 3), (r5, tlC cI tf), (h0, snC n0 k0 g0 sv h1 h2 h7), (h1, tmC tv), (h2, boC h3 h5 bv), (h3, mkC h4), (h4, .inl (cJ, 4, .inr (.inl f))), (h5, mkC h6), (h6, .inl (cJ, 4, .inr (.inl g))), (h7, cuC cv)] ++ va_pl L (pf cJ kd pi bd af bo)) H := hP
    have hD : va_D A ([(r0, rdC ov (va_rf ol) r1 r2 r3 r4 r5), (r1, chC cf cl zn 0), (r2, chC cf cl zn 1), (r3, chC cf cl zn 2), (r4, chC cf cl zn 3), (r5, tlC cI tf), (h0, snC n0 k0 g0 sv h1 h2 h7), (h1, tmC tv), (h2, boC h3 h5 bv), (h3, mkC h4), (h4, .inl (cJ, 4, .inr (.inl f))), (h5, mkC h6), (h6, .inl (cJ, 4, .inr (.inl g))), (h7, cuC cv)] ++ va_pl L (pf cJ kd pi bd af bo)) := hD
    refine W.widen (k := 0) (n := 0) (Nat.le_of_ble_eq_true rfl) (Nat.le_of_ble_eq_true rfl) ?_
    refine lv_aload_n hx hb dX8_hearInRecovery_26 rfl (lv_at hl 0 rfl) ?_
    refine lv_iconst (v := 0) hx hb dX8_hearInRecovery_27 (by decide) ?_
    refine va_put (D := D) (ci := 8) (v := .int 0) (ty := .boolean) (C := RX8) (T := TX8) (N := 20) hx hb ha inlX8 tyX8 tyX8_ok nmX8 hown hK hP hD hS 6 rfl rfl 11 (by decide) (ha _ kf_X8_86) (fun _ h9 => h9) rfl (by decide +kernel) rfl rfl (Nat.le_of_ble_eq_true rfl) dX8_hearInRecovery_28 (fun H locs hP hD hS => ?_)
    have hP : va_P D vwCl ([(r0, rdC ov (va_rf ol) r1 r2 r3 r4 r5), (r1, chC cf cl zn 0), (r2, chC cf cl zn 1), (r3, chC cf cl zn 2), (r4, chC cf cl zn 3), (r5, tlC cI tf), (h0, snC n0 k0 g0 (upd sv 11 0) h1 h2 h7), (h1, tmC tv), (h2, boC h3 h5 bv), (h3, mkC h4), (h4, .inl (cJ, 4, .inr (.inl f))), (h5, mkC h6), (h6, .inl (cJ, 4, .inr (.inl g))), (h7, cuC cv)] ++ va_pl L (pf cJ kd pi bd af bo)) H := hP
    have hD : va_D A ([(r0, rdC ov (va_rf ol) r1 r2 r3 r4 r5), (r1, chC cf cl zn 0), (r2, chC cf cl zn 1), (r3, chC cf cl zn 2), (r4, chC cf cl zn 3), (r5, tlC cI tf), (h0, snC n0 k0 g0 (upd sv 11 0) h1 h2 h7), (h1, tmC tv), (h2, boC h3 h5 bv), (h3, mkC h4), (h4, .inl (cJ, 4, .inr (.inl f))), (h5, mkC h6), (h6, .inl (cJ, 4, .inr (.inl g))), (h7, cuC cv)] ++ va_pl L (pf cJ kd pi bd af bo)) := hD
    generalize hg_77 : upd sv 11 0 = sv at hP hD
    have hE := bs_at hg_77 hE
    refine lv_aload_n hx hb dX8_hearInRecovery_31 rfl (lv_at hl 0 rfl) ?_
    refine lv_iconst (v := 0) hx hb dX8_hearInRecovery_32 (by decide) ?_
    refine va_put (D := D) (ci := 8) (v := .int 0) (ty := .int) (C := RX8) (T := TX8) (N := 20) hx hb ha inlX8 tyX8 tyX8_ok nmX8 hown hK hP hD hS 6 rfl rfl 10 (by decide) (ha _ kf_X8_93) (fun _ h9 => h9) rfl (by decide +kernel) rfl rfl (Nat.le_of_ble_eq_true rfl) dX8_hearInRecovery_33 (fun H locs hP hD hS => ?_)
    have hP : va_P D vwCl ([(r0, rdC ov (va_rf ol) r1 r2 r3 r4 r5), (r1, chC cf cl zn 0), (r2, chC cf cl zn 1), (r3, chC cf cl zn 2), (r4, chC cf cl zn 3), (r5, tlC cI tf), (h0, snC n0 k0 g0 (upd sv 10 0) h1 h2 h7), (h1, tmC tv), (h2, boC h3 h5 bv), (h3, mkC h4), (h4, .inl (cJ, 4, .inr (.inl f))), (h5, mkC h6), (h6, .inl (cJ, 4, .inr (.inl g))), (h7, cuC cv)] ++ va_pl L (pf cJ kd pi bd af bo)) H := hP
    have hD : va_D A ([(r0, rdC ov (va_rf ol) r1 r2 r3 r4 r5), (r1, chC cf cl zn 0), (r2, chC cf cl zn 1), (r3, chC cf cl zn 2), (r4, chC cf cl zn 3), (r5, tlC cI tf), (h0, snC n0 k0 g0 (upd sv 10 0) h1 h2 h7), (h1, tmC tv), (h2, boC h3 h5 bv), (h3, mkC h4), (h4, .inl (cJ, 4, .inr (.inl f))), (h5, mkC h6), (h6, .inl (cJ, 4, .inr (.inl g))), (h7, cuC cv)] ++ va_pl L (pf cJ kd pi bd af bo)) := hD
    generalize hg_78 : upd sv 10 0 = sv at hP hD
    have hE := bs_at hg_78 hE
    refine lv_goto (tgt := 81) hx hb dX8_hearInRecovery_36 (by decide) ?_
    refine W.know2 (fun hk1 hk2 => ?_)
    have hg0 : gr s.heap _ 0 := ⟨hk1, hk2⟩
    refine W.widen (k := 2) (n := 11) (Nat.le_of_ble_eq_true rfl) (Nat.le_of_ble_eq_true rfl) ?_
    have hP9 : va_P D vwCl ([(r0, rdC ov (va_rf ol) r1 r2 r3 r4 r5), (r1, chC cf cl zn 0), (r2, chC cf cl zn 1), (r3, chC cf cl zn 2), (r4, chC cf cl zn 3), (r5, tlC cI tf), (h0, snC n0 k0 g0 sv h1 h2 h7), (h1, tmC tv), (h2, boC h3 h5 bv), (h3, mkC h4), (h4, .inl (cJ, 4, .inr (.inl f))), (h5, mkC h6), (h6, .inl (cJ, 4, .inr (.inl g))), (h7, cuC cv)] ++ va_pl L (pf cJ kd pi bd af bo)) _ := hP
    have hD9 : va_D A ([(r0, rdC ov (va_rf ol) r1 r2 r3 r4 r5), (r1, chC cf cl zn 0), (r2, chC cf cl zn 1), (r3, chC cf cl zn 2), (r4, chC cf cl zn 3), (r5, tlC cI tf), (h0, snC n0 k0 g0 sv h1 h2 h7), (h1, tmC tv), (h2, boC h3 h5 bv), (h3, mkC h4), (h4, .inl (cJ, 4, .inr (.inl f))), (h5, mkC h6), (h6, .inl (cJ, 4, .inr (.inl g))), (h7, cuC cv)] ++ va_pl L (pf cJ kd pi bd af bo)) := hD
    exact W.vret hx hb hr (fun t ht hW => ⟨⟨(), rfl, trivial, ⟨sv, tv, bv, cv, f, g, ov, tf, ol, cf, cl, zn, xl, tag, L, kd, pi, bd, af, bo, 0, go, gq, ⟨⟨hR, hPB, hZ, hT, by rw [ht]; exact hg0, by omega, hLK, hQ⟩, ⟨hG, hJ⟩, (by rw [← hRES, hE]), (by rw [← hRES, hE]), (by rw [← hRES, hE]), (by rw [← hRES, hE]), (by rw [← hRES, hE]), (by rw [← hRES, hE]), (by rw [← hRES, hE]), (by rw [← hRES, hE]), (by rw [← hRES, hE]), (by rw [← hRES, hE])⟩, by rw [ht]; exact hP9, va_K.moved hW.alike hK, hD9⟩⟩, hS.F ht⟩) hS.2.2 dX8_hearInRecovery_81
  · have hE := hE.trans (if_neg c_67)
    refine lv_aload_n hx hb dX8_hearInRecovery_7 rfl (lv_at hl 0 rfl) ?_
    refine va_get (D := D) (ci := 8) (v := .int (sv 3)) (C := RX8) (T := TX8) (N := 20) hx hb ha inlX8 hown hK hP 6 rfl rfl 3 (by decide) (ha _ kf_X8_59) (fun _ h9 => h9) rfl dX8_hearInRecovery_8 ?_
    refine lv_topi (fun x_79 ex_79 => ?_)
    have hE := bd_at ex_79 hE
    refine lv_aload_n hx hb dX8_hearInRecovery_11 rfl (lv_at hl 0 rfl) ?_
    refine va_get (D := D) (ci := 8) (v := .int (sv 12)) (C := RX8) (T := TX8) (N := 20) hx hb ha inlX8 hown hK hP 6 rfl rfl 12 (by decide) (ha _ kf_X8_216) (fun _ h9 => h9) rfl dX8_hearInRecovery_12 ?_
    refine lv_topi (fun x_80 ex_80 => ?_)
    have hE := bd_at ex_80 hE
    refine lv_icmp_lt (tgt := 39) hx hb dX8_hearInRecovery_15 (by decide) (fun c_81 => ?_) (fun c_81 => ?_)
    · have hE := hE.trans (if_pos c_81)
      refine lv_aload_n hx hb dX8_hearInRecovery_39 rfl (lv_at hl 0 rfl) ?_
      refine va_get (D := D) (ci := 8) (v := .int k0) (C := RX8) (T := TX8) (N := 20) hx hb ha inlX8 hown hK hP 6 rfl rfl 1 (by decide) (ha _ kf_X8_49) (fun _ h9 => h9) rfl dX8_hearInRecovery_40 ?_
      refine lv_iconst (v := 3) hx hb dX8_hearInRecovery_43 (by decide) ?_
      refine lv_icmp_eq (tgt := 81) hx hb dX8_hearInRecovery_44 (by decide) (fun c_82 => ?_) (fun c_82 => ?_)
      · have hE := hE.trans (if_pos c_82)
        refine W.know2 (fun hk1 hk2 => ?_)
        have hg0 : gr s.heap _ 0 := ⟨hk1, hk2⟩
        refine W.widen (k := 2) (n := 11) (Nat.le_of_ble_eq_true rfl) (Nat.le_of_ble_eq_true rfl) ?_
        have hP9 : va_P D vwCl ([(r0, rdC ov (va_rf ol) r1 r2 r3 r4 r5), (r1, chC cf cl zn 0), (r2, chC cf cl zn 1), (r3, chC cf cl zn 2), (r4, chC cf cl zn 3), (r5, tlC cI tf), (h0, snC n0 k0 g0 sv h1 h2 h7), (h1, tmC tv), (h2, boC h3 h5 bv), (h3, mkC h4), (h4, .inl (cJ, 4, .inr (.inl f))), (h5, mkC h6), (h6, .inl (cJ, 4, .inr (.inl g))), (h7, cuC cv)] ++ va_pl L (pf cJ kd pi bd af bo)) _ := hP
        have hD9 : va_D A ([(r0, rdC ov (va_rf ol) r1 r2 r3 r4 r5), (r1, chC cf cl zn 0), (r2, chC cf cl zn 1), (r3, chC cf cl zn 2), (r4, chC cf cl zn 3), (r5, tlC cI tf), (h0, snC n0 k0 g0 sv h1 h2 h7), (h1, tmC tv), (h2, boC h3 h5 bv), (h3, mkC h4), (h4, .inl (cJ, 4, .inr (.inl f))), (h5, mkC h6), (h6, .inl (cJ, 4, .inr (.inl g))), (h7, cuC cv)] ++ va_pl L (pf cJ kd pi bd af bo)) := hD
        exact W.vret hx hb hr (fun t ht hW => ⟨⟨(), rfl, trivial, ⟨sv, tv, bv, cv, f, g, ov, tf, ol, cf, cl, zn, xl, tag, L, kd, pi, bd, af, bo, 0, go, gq, ⟨⟨hR, hPB, hZ, hT, by rw [ht]; exact hg0, by omega, hLK, hQ⟩, ⟨hG, hJ⟩, (by rw [← hRES, hE]), (by rw [← hRES, hE]), (by rw [← hRES, hE]), (by rw [← hRES, hE]), (by rw [← hRES, hE]), (by rw [← hRES, hE]), (by rw [← hRES, hE]), (by rw [← hRES, hE]), (by rw [← hRES, hE]), (by rw [← hRES, hE])⟩, by rw [ht]; exact hP9, va_K.moved hW.alike hK, hD9⟩⟩, hS.F ht⟩) hS.2.2 dX8_hearInRecovery_81
      · have hE := hE.trans (if_neg c_82)
        refine lv_aload_n hx hb dX8_hearInRecovery_47 rfl (lv_at hl 0 rfl) ?_
        refine lv_aload_n hx hb dX8_hearInRecovery_48 rfl (lv_at hl 0 rfl) ?_
        refine va_get (D := D) (ci := 8) (v := .int (sv 3)) (C := RX8) (T := TX8) (N := 20) hx hb ha inlX8 hown hK hP 6 rfl rfl 3 (by decide) (ha _ kf_X8_59) (fun _ h9 => h9) rfl dX8_hearInRecovery_49 ?_
        refine lv_topi (fun x_83 ex_83 => ?_)
        have hE := bd_at ex_83 hE
        refine lv_aload_n hx hb dX8_hearInRecovery_52 rfl (lv_at hl 2 rfl) ?_
        refine lv_iload_n hx hb dX8_hearInRecovery_53 rfl (lv_at hl 3 rfl) ?_
        have hPc := hP.part (X := [(r0, rdC ov (va_rf ol) r1 r2 r3 r4 r5), (r1, chC cf cl zn 0), (r2, chC cf cl zn 1), (r3, chC cf cl zn 2), (r4, chC cf cl zn 3), (r5, tlC cI tf), (h0, snC n0 k0 g0 sv h1 h2 h7), (h1, tmC tv), (h2, boC h3 h5 bv), (h3, mkC h4), (h4, .inl (cJ, 4, .inr (.inl f))), (h5, mkC h6), (h6, .inl (cJ, 4, .inr (.inl g))), (h7, cuC cv)]) (cx := [(r0, rdC ov (va_rf ol) r1 r2 r3 r4 r5), (r1, chC cf cl zn 0), (r2, chC cf cl zn 1), (r3, chC cf cl zn 2), (r4, chC cf cl zn 3), (r5, tlC cI tf), (h0, snC n0 k0 g0 sv h1 h2 h7), (h1, tmC tv), (h2, boC h3 h5 bv), (h3, mkC h4), (h4, .inl (cJ, 4, .inr (.inl f))), (h5, mkC h6), (h6, .inl (cJ, 4, .inr (.inl g))), (h7, cuC cv)]) (pl := va_pl L (pf cJ kd pi bd af bo)) [0, 1, 2, 3, 4, 5, 6, 7, 8, 9, 10, 11, 12, 13] rfl
        have hDc := hD.part (X := [(r0, rdC ov (va_rf ol) r1 r2 r3 r4 r5), (r1, chC cf cl zn 0), (r2, chC cf cl zn 1), (r3, chC cf cl zn 2), (r4, chC cf cl zn 3), (r5, tlC cI tf), (h0, snC n0 k0 g0 sv h1 h2 h7), (h1, tmC tv), (h2, boC h3 h5 bv), (h3, mkC h4), (h4, .inl (cJ, 4, .inr (.inl f))), (h5, mkC h6), (h6, .inl (cJ, 4, .inr (.inl g))), (h7, cuC cv)]) (cx := [(r0, rdC ov (va_rf ol) r1 r2 r3 r4 r5), (r1, chC cf cl zn 0), (r2, chC cf cl zn 1), (r3, chC cf cl zn 2), (r4, chC cf cl zn 3), (r5, tlC cI tf), (h0, snC n0 k0 g0 sv h1 h2 h7), (h1, tmC tv), (h2, boC h3 h5 bv), (h3, mkC h4), (h4, .inl (cJ, 4, .inr (.inl f))), (h5, mkC h6), (h6, .inl (cJ, 4, .inr (.inl g))), (h7, cuC cv)]) (pl := va_pl L (pf cJ kd pi bd af bo)) [0, 1, 2, 3, 4, 5, 6, 7, 8, 9, 10, 11, 12, 13] (by decide) rfl
        have hFc := va_freeP (X := [(r0, rdC ov (va_rf ol) r1 r2 r3 r4 r5), (r1, chC cf cl zn 0), (r2, chC cf cl zn 1), (r3, chC cf cl zn 2), (r4, chC cf cl zn 3), (r5, tlC cI tf), (h0, snC n0 k0 g0 sv h1 h2 h7), (h1, tmC tv), (h2, boC h3 h5 bv), (h3, mkC h4), (h4, .inl (cJ, 4, .inr (.inl f))), (h5, mkC h6), (h6, .inl (cJ, 4, .inr (.inl g))), (h7, cuC cv)]) (cx := [(r0, rdC ov (va_rf ol) r1 r2 r3 r4 r5), (r1, chC cf cl zn 0), (r2, chC cf cl zn 1), (r3, chC cf cl zn 2), (r4, chC cf cl zn 3), (r5, tlC cI tf), (h0, snC n0 k0 g0 sv h1 h2 h7), (h1, tmC tv), (h2, boC h3 h5 bv), (h3, mkC h4), (h4, .inl (cJ, 4, .inr (.inl f))), (h5, mkC h6), (h6, .inl (cJ, 4, .inr (.inl g))), (h7, cuC cv)]) (pl := va_pl L (pf cJ kd pi bd af bo)) hD hS hA [0, 1, 2, 3, 4, 5, 6, 7, 8, 9, 10, 11, 12, 13] rfl
        refine W.know2 (fun hka hkb => ?_)
        have hg0 : gr s.heap _ 0 := ⟨hka, hkb⟩
        have hle0 := hS.1
        refine va_callv (va_runV (As := [.int x_83, .ref r0, .int n2]) (rest := []) ⟨hx, hb, hml, hown, ha⟩ (s_transmit l D cI cJ cZ cO _ r0 r1 r2 r3 r4 r5 ov ol cf cl zn xl tag L kd pi bd af bo go gq gw ga tf h0 h1 h2 h3 h4 h5 h6 h7 n0 k0 g0 sv tv bv cv f g x_83 n2 hR hPB hZ hG hJ hT hLK hq0) (cwV 3 ha (gaV kl_X8_131 km_X8_transmit ks_X8_transmit kz_X8 kd_X8_transmit) rfl rfl rfl (by decide +kernel) ⟨Nat.le_of_ble_eq_true rfl, Nat.le_of_ble_eq_true rfl⟩) ⟨pw_blindh, va_recv hK hPc (ci := 8) (q0 := 6) rfl rfl, fun U hU hW => ⟨rfl, pw_starth hU hW hPc hK hDc hN⟩⟩ rfl rfl hl.1 rfl (lv_room (Nat.le_of_ble_eq_true rfl)) dX8_hearInRecovery_54 ⟨Nat.le_of_ble_eq_true rfl, Nat.le_of_ble_eq_true rfl⟩) hS (fun q _ h => hFc q h) hFc (fun u t H1 locs ht hvm hw hB hz1 hk1 hS => ?_)
        obtain ⟨sv, tv, bv, cv, f, g, ov, tf, ol, cf, cl, zn, xl, tag, L, kd, pi, bd, af, bo, q_105, go, gq, ⟨hf_108, ⟨hG, hJ⟩, hX0, hX1, hX2, hX3, hX4, hX5, hX6, hX7, hX8, hX9⟩, hP1, hK1, hD1⟩ := hB
        have hE := bd_at rfl hE
        have hE := bd_at hX0 hE
        have hE := bd_at hX1 hE
        have hE := bd_at hX2 hE
        have hE := bd_at hX3 hE
        have hE := bd_at hX4 hE
        have hE := bd_at hX5 hE
        have hE := bd_at hX6 hE
        have hE := bd_at hX7 hE
        have hE := bd_at hX8 hE
        have hE := bd_at hX9 hE
        rw [ht] at hP1
        rw [ht] at hf_108
        obtain ⟨hP, hD⟩ := va_joinP (wr := []) (rx := [(r0, rdC ov (va_rf ol) r1 r2 r3 r4 r5), (r1, chC cf cl zn 0), (r2, chC cf cl zn 1), (r3, chC cf cl zn 2), (r4, chC cf cl zn 3), (r5, tlC cI tf), (h0, snC n0 k0 g0 sv h1 h2 h7), (h1, tmC tv), (h2, boC h3 h5 bv), (h3, mkC h4), (h4, .inl (cJ, 4, .inr (.inl f))), (h5, mkC h6), (h6, .inl (cJ, 4, .inr (.inl g))), (h7, cuC cv)]) (pl1 := va_pl L (pf cJ kd pi bd af bo)) hP hD [0, 1, 2, 3, 4, 5, 6, 7, 8, 9, 10, 11, 12, 13] [] rfl rfl (by decide) (by decide) hk1 hFc hP1 hD1
        generalize H1 = H at hP hS hf_108 ⊢
        have hP : va_P D vwCl ([(r0, rdC ov (va_rf ol) r1 r2 r3 r4 r5), (r1, chC cf cl zn 0), (r2, chC cf cl zn 1), (r3, chC cf cl zn 2), (r4, chC cf cl zn 3), (r5, tlC cI tf), (h0, snC n0 k0 g0 sv h1 h2 h7), (h1, tmC tv), (h2, boC h3 h5 bv), (h3, mkC h4), (h4, .inl (cJ, 4, .inr (.inl f))), (h5, mkC h6), (h6, .inl (cJ, 4, .inr (.inl g))), (h7, cuC cv)] ++ va_pl L (pf cJ kd pi bd af bo)) H := hP
        have hD : va_D A ([(r0, rdC ov (va_rf ol) r1 r2 r3 r4 r5), (r1, chC cf cl zn 0), (r2, chC cf cl zn 1), (r3, chC cf cl zn 2), (r4, chC cf cl zn 3), (r5, tlC cI tf), (h0, snC n0 k0 g0 sv h1 h2 h7), (h1, tmC tv), (h2, boC h3 h5 bv), (h3, mkC h4), (h4, .inl (cJ, 4, .inr (.inl f))), (h5, mkC h6), (h6, .inl (cJ, 4, .inr (.inl g))), (h7, cuC cv)] ++ va_pl L (pf cJ kd pi bd af bo)) := hD
        refine W.widen (k := 2) (n := 11) (Nat.le_of_ble_eq_true rfl) (Nat.le_of_ble_eq_true rfl) ?_
        have hR := hf_108.1
        have hPB := hf_108.2.1
        have hZ := hf_108.2.2.1
        have hT := hf_108.2.2.2.1
        have hg0 := gr_trans hle0 hg0 hf_108.2.2.2.2.1
        have hb1 := hf_108.2.2.2.2.2.1
        have hLK := hf_108.2.2.2.2.2.2.1
        have hq0 := (hf_108.2.2.2.2.2.2.2.2.2.2.2 hq0).1
        have hQ := QQ_trans hQ hf_108.2.2.2.2.2.2.2
        refine W.grown hg0 ?_
        refine lv_aload_n hx hb dX8_hearInRecovery_57 rfl (lv_at hl 0 rfl) ?_
        refine lv_sipush (v := 1024) hx hb dX8_hearInRecovery_58 (by decide) ?_
        refine lv_aload_n hx hb dX8_hearInRecovery_61 rfl (lv_at hl 0 rfl) ?_
        refine va_get (D := D) (ci := 8) (v := .int (sv 6)) (C := RX8) (T := TX8) (N := 20) hx hb ha inlX8 hown hK hP 6 rfl rfl 6 (by decide) (ha _ kf_X8_9) (fun _ h9 => h9) rfl dX8_hearInRecovery_62 ?_
        refine lv_topi (fun x_109 ex_109 => ?_)
        have hE := bd_at ex_109 hE
        refine lv_sipush (v := 1024) hx hb dX8_hearInRecovery_65 (by decide) ?_
        refine lv_iload_n hx hb dX8_hearInRecovery_68 rfl (lv_at hl 1 rfl) ?_
        refine lv_imul hx hb dX8_hearInRecovery_69 ?_
        refine lv_topi (fun x_110 ex_110 => ?_)
        have hE := bd_at ex_110 hE
        refine lv_isub hx hb dX8_hearInRecovery_70 ?_
        refine lv_topi (fun x_111 ex_111 => ?_)
        have hE := bd_at ex_111 hE
        refine lv_sipush (v := 1024) hx hb dX8_hearInRecovery_71 (by decide) ?_
        refine lv_iadd hx hb dX8_hearInRecovery_74 ?_
        refine lv_topi (fun x_112 ex_112 => ?_)
        have hE := bd_at ex_112 hE
        refine va_mmax hx hb (hml.trans hl.1.symm) hown (ha _ kl_X8_191) (ha _ kt_max) (ha _ kz_J9) (ha _ kd_max) (Nat.le_of_ble_eq_true rfl) (Nat.le_of_ble_eq_true rfl) (show 2 * (0 + q_105) ≤ 2 by omega) (show 11 * (0 + q_105) ≤ 11 by omega) dX8_hearInRecovery_75 ?_
        refine lv_topi (fun x_113 ex_113 => ?_)
        have hE := bd_at ex_113 hE
        have hPc := hP.sub (ws' := [(h0, snC n0 k0 g0 sv h1 h2 h7), (h1, tmC tv), (h2, boC h3 h5 bv), (h3, mkC h4), (h4, .inl (cJ, 4, .inr (.inl f))), (h5, mkC h6), (h6, .inl (cJ, 4, .inr (.inl g))), (h7, cuC cv)]) [6, 7, 8, 9, 10, 11, 12, 13] rfl
        have hDc := hD.sub (ws' := [(h0, snC n0 k0 g0 sv h1 h2 h7), (h1, tmC tv), (h2, boC h3 h5 bv), (h3, mkC h4), (h4, .inl (cJ, 4, .inr (.inl f))), (h5, mkC h6), (h6, .inl (cJ, 4, .inr (.inl g))), (h7, cuC cv)]) [6, 7, 8, 9, 10, 11, 12, 13] (by decide) rfl
        have hFc := va_free (wc := [(h0, snC n0 k0 g0 sv h1 h2 h7), (h1, tmC tv), (h2, boC h3 h5 bv), (h3, mkC h4), (h4, .inl (cJ, 4, .inr (.inl f))), (h5, mkC h6), (h6, .inl (cJ, 4, .inr (.inl g))), (h7, cuC cv)]) hD hS hA [6, 7, 8, 9, 10, 11, 12, 13] rfl
        refine va_callv (va_runV (As := [.int x_113]) (rest := []) ⟨hx, hb, hml, hown, ha⟩ (s_setCwnd l D cI cJ cZ cO _ h0 h1 h2 h3 h4 h5 h6 h7 n0 k0 g0 sv tv bv cv f g x_113) (cwV 1 ha (gaV kl_X8_219 km_X8_setCwnd ks_X8_setCwnd kz_X8 kd_X8_setCwnd) rfl rfl rfl (by decide +kernel) ⟨Nat.le_of_ble_eq_true rfl, Nat.le_of_ble_eq_true rfl⟩) ⟨pw_blind, va_recv hK hPc (ci := 8) (q0 := 0) rfl rfl, fun U hU hW => ⟨rfl, pw_start hU hW hPc hK hDc hN⟩⟩ rfl rfl hl.1 rfl (lv_room (Nat.le_of_ble_eq_true rfl)) dX8_hearInRecovery_78 ⟨show 2 * (0 + q_105) + 0 ≤ 2 by omega, show 11 * (0 + q_105) + 0 ≤ 11 by omega⟩) hS (fun q _ h => hFc q h) hFc (fun u t H1 locs ht hvm hw hB hz1 hk1 hS => ?_)
        obtain ⟨sv, tv, bv, cv, f, g, ⟨hX0, hX1, hX2, hX3, hX4, hX5⟩, hP1, hK1, hD1⟩ := hB
        have hE := bd_at rfl hE
        have hE := bd_at hX0 hE
        have hE := bd_at hX1 hE
        have hE := bd_at hX2 hE
        have hE := bd_at hX3 hE
        have hE := bd_at hX4 hE
        have hE := bd_at hX5 hE
        rw [ht] at hP1
        obtain ⟨hP, hD⟩ := va_joinQ (wr := [(r0, rdC ov (va_rf ol) r1 r2 r3 r4 r5), (r1, chC cf cl zn 0), (r2, chC cf cl zn 1), (r3, chC cf cl zn 2), (r4, chC cf cl zn 3), (r5, tlC cI tf)]) (w1 := [(h0, snC n0 k0 g0 sv h1 h2 h7), (h1, tmC tv), (h2, boC h3 h5 bv), (h3, mkC h4), (h4, .inl (cJ, 4, .inr (.inl f))), (h5, mkC h6), (h6, .inl (cJ, 4, .inr (.inl g))), (h7, cuC cv)]) hP hD [6, 7, 8, 9, 10, 11, 12, 13] [0, 1, 2, 3, 4, 5] rfl rfl (by decide) (by decide) hk1 hFc hP1 hD1
        generalize H1 = H at hP hS ⊢
        have hP : va_P D vwCl ([(r0, rdC ov (va_rf ol) r1 r2 r3 r4 r5), (r1, chC cf cl zn 0), (r2, chC cf cl zn 1), (r3, chC cf cl zn 2), (r4, chC cf cl zn 3), (r5, tlC cI tf), (h0, snC n0 k0 g0 sv h1 h2 h7), (h1, tmC tv), (h2, boC h3 h5 bv), (h3, mkC h4), (h4, .inl (cJ, 4, .inr (.inl f))), (h5, mkC h6), (h6, .inl (cJ, 4, .inr (.inl g))), (h7, cuC cv)] ++ va_pl L (pf cJ kd pi bd af bo)) H := hP
        have hD : va_D A ([(r0, rdC ov (va_rf ol) r1 r2 r3 r4 r5), (r1, chC cf cl zn 0), (r2, chC cf cl zn 1), (r3, chC cf cl zn 2), (r4, chC cf cl zn 3), (r5, tlC cI tf), (h0, snC n0 k0 g0 sv h1 h2 h7), (h1, tmC tv), (h2, boC h3 h5 bv), (h3, mkC h4), (h4, .inl (cJ, 4, .inr (.inl f))), (h5, mkC h6), (h6, .inl (cJ, 4, .inr (.inl g))), (h7, cuC cv)] ++ va_pl L (pf cJ kd pi bd af bo)) := hD
        refine W.widen (k := 2 * (0 + q_105)) (n := 11 * (0 + q_105)) (Nat.le_refl _) (Nat.le_refl _) ?_
        refine W.know2 (fun hk1 hk2 => ?_)
        have hg0 : gr s.heap _ (0 + q_105) := ⟨hk1, hk2⟩
        refine W.widen (k := 2) (n := 11) (by omega) (by omega) ?_
        have hP9 : va_P D vwCl ([(r0, rdC ov (va_rf ol) r1 r2 r3 r4 r5), (r1, chC cf cl zn 0), (r2, chC cf cl zn 1), (r3, chC cf cl zn 2), (r4, chC cf cl zn 3), (r5, tlC cI tf), (h0, snC n0 k0 g0 sv h1 h2 h7), (h1, tmC tv), (h2, boC h3 h5 bv), (h3, mkC h4), (h4, .inl (cJ, 4, .inr (.inl f))), (h5, mkC h6), (h6, .inl (cJ, 4, .inr (.inl g))), (h7, cuC cv)] ++ va_pl L (pf cJ kd pi bd af bo)) _ := hP
        have hD9 : va_D A ([(r0, rdC ov (va_rf ol) r1 r2 r3 r4 r5), (r1, chC cf cl zn 0), (r2, chC cf cl zn 1), (r3, chC cf cl zn 2), (r4, chC cf cl zn 3), (r5, tlC cI tf), (h0, snC n0 k0 g0 sv h1 h2 h7), (h1, tmC tv), (h2, boC h3 h5 bv), (h3, mkC h4), (h4, .inl (cJ, 4, .inr (.inl f))), (h5, mkC h6), (h6, .inl (cJ, 4, .inr (.inl g))), (h7, cuC cv)] ++ va_pl L (pf cJ kd pi bd af bo)) := hD
        exact W.vret hx hb hr (fun t ht hW => ⟨⟨(), rfl, trivial, ⟨sv, tv, bv, cv, f, g, ov, tf, ol, cf, cl, zn, xl, tag, L, kd, pi, bd, af, bo, (0 + q_105), go, gq, ⟨⟨hR, hPB, hZ, hT, by rw [ht]; exact hg0, by omega, hLK, hQ⟩, ⟨hG, hJ⟩, (by rw [← hRES, hE]), (by rw [← hRES, hE]), (by rw [← hRES, hE]), (by rw [← hRES, hE]), (by rw [← hRES, hE]), (by rw [← hRES, hE]), (by rw [← hRES, hE]), (by rw [← hRES, hE]), (by rw [← hRES, hE]), (by rw [← hRES, hE])⟩, by rw [ht]; exact hP9, va_K.moved hW.alike hK, hD9⟩⟩, hS.F ht⟩) hS.2.2 dX8_hearInRecovery_81
    · have hE := hE.trans (if_neg c_81)
      refine lv_aload_n hx hb dX8_hearInRecovery_18 rfl (lv_at hl 0 rfl) ?_
      refine lv_aload_n hx hb dX8_hearInRecovery_19 rfl (lv_at hl 0 rfl) ?_
      refine va_get (D := D) (ci := 8) (v := .int (sv 8)) (C := RX8) (T := TX8) (N := 20) hx hb ha inlX8 hown hK hP 6 rfl rfl 8 (by decide) (ha _ kf_X8_19) (fun _ h9 => h9) rfl dX8_hearInRecovery_20 ?_
      refine lv_topi (fun x_122 ex_122 => ?_)
      have hE := bd_at ex_122 hE
      have hPc := hP.sub (ws' := [(h0, snC n0 k0 g0 sv h1 h2 h7), (h1, tmC tv), (h2, boC h3 h5 bv), (h3, mkC h4), (h4, .inl (cJ, 4, .inr (.inl f))), (h5, mkC h6), (h6, .inl (cJ, 4, .inr (.inl g))), (h7, cuC cv)]) [6, 7, 8, 9, 10, 11, 12, 13] rfl
      have hDc := hD.sub (ws' := [(h0, snC n0 k0 g0 sv h1 h2 h7), (h1, tmC tv), (h2, boC h3 h5 bv), (h3, mkC h4), (h4, .inl (cJ, 4, .inr (.inl f))), (h5, mkC h6), (h6, .inl (cJ, 4, .inr (.inl g))), (h7, cuC cv)]) [6, 7, 8, 9, 10, 11, 12, 13] (by decide) rfl
      have hFc := va_free (wc := [(h0, snC n0 k0 g0 sv h1 h2 h7), (h1, tmC tv), (h2, boC h3 h5 bv), (h3, mkC h4), (h4, .inl (cJ, 4, .inr (.inl f))), (h5, mkC h6), (h6, .inl (cJ, 4, .inr (.inl g))), (h7, cuC cv)]) hD hS hA [6, 7, 8, 9, 10, 11, 12, 13] rfl
      refine va_callv (va_runV (As := [.int x_122]) (rest := []) ⟨hx, hb, hml, hown, ha⟩ (s_setCwnd l D cI cJ cZ cO _ h0 h1 h2 h3 h4 h5 h6 h7 n0 k0 g0 sv tv bv cv f g x_122) (cwV 1 ha (gaV kl_X8_219 km_X8_setCwnd ks_X8_setCwnd kz_X8 kd_X8_setCwnd) rfl rfl rfl (by decide +kernel) ⟨Nat.le_of_ble_eq_true rfl, Nat.le_of_ble_eq_true rfl⟩) ⟨pw_blind, va_recv hK hPc (ci := 8) (q0 := 0) rfl rfl, fun U hU hW => ⟨rfl, pw_start hU hW hPc hK hDc hN⟩⟩ rfl rfl hl.1 rfl (lv_room (Nat.le_of_ble_eq_true rfl)) dX8_hearInRecovery_23 ⟨Nat.le_of_ble_eq_true rfl, Nat.le_of_ble_eq_true rfl⟩) hS (fun q _ h => hFc q h) hFc (fun u t H1 locs ht hvm hw hB hz1 hk1 hS => ?_)
      obtain ⟨sv, tv, bv, cv, f, g, ⟨hX0, hX1, hX2, hX3, hX4, hX5⟩, hP1, hK1, hD1⟩ := hB
      have hE := bd_at rfl hE
      have hE := bd_at hX0 hE
      have hE := bd_at hX1 hE
      have hE := bd_at hX2 hE
      have hE := bd_at hX3 hE
      have hE := bd_at hX4 hE
      have hE := bd_at hX5 hE
      rw [ht] at hP1
      obtain ⟨hP, hD⟩ := va_joinQ (wr := [(r0, rdC ov (va_rf ol) r1 r2 r3 r4 r5), (r1, chC cf cl zn 0), (r2, chC cf cl zn 1), (r3, chC cf cl zn 2), (r4, chC cf cl zn 3), (r5, tlC cI tf)]) (w1 := [(h0, snC n0 k0 g0 sv h1 h2 h7), (h1, tmC tv), (h2, boC h3 h5 bv), (h3, mkC h4), (h4, .inl (cJ, 4, .inr (.inl f))), (h5, mkC h6), (h6, .inl (cJ, 4, .inr (.inl g))), (h7, cuC cv)]) hP hD [6, 7, 8, 9, 10, 11, 12, 13] [0, 1, 2, 3, 4, 5] rfl rfl (by decide) (by decide) hk1 hFc hP1 hD1
      generalize H1 = H at hP hS ⊢
      have hP : va_P D vwCl ([(r0, rdC ov (va_rf ol) r1 r2 r3 r4 r5), (r1, chC cf cl zn 0), (r2, chC cf cl zn 1), (r3, chC cf cl zn 2), (r4, chC cf cl zn 3), (r5, tlC cI tf), (h0, snC n0 k0 g0 sv h1 h2 h7), (h1, tmC tv), (h2, boC h3 h5 bv), (h3, mkC h4), (h4, .inl (cJ, 4, .inr (.inl f))), (h5, mkC h6), (h6, .inl (cJ, 4, .inr (.inl g))), (h7, cuC cv)] ++ va_pl L (pf cJ kd pi bd af bo)) H := hP
      have hD : va_D A ([(r0, rdC ov (va_rf ol) r1 r2 r3 r4 r5), (r1, chC cf cl zn 0), (r2, chC cf cl zn 1), (r3, chC cf cl zn 2), (r4, chC cf cl zn 3), (r5, tlC cI tf), (h0, snC n0 k0 g0 sv h1 h2 h7), (h1, tmC tv), (h2, boC h3 h5 bv), (h3, mkC h4), (h4, .inl (cJ, 4, .inr (.inl f))), (h5, mkC h6), (h6, .inl (cJ, 4, .inr (.inl g))), (h7, cuC cv)] ++ va_pl L (pf cJ kd pi bd af bo)) := hD
      refine W.widen (k := 0) (n := 0) (Nat.le_of_ble_eq_true rfl) (Nat.le_of_ble_eq_true rfl) ?_
      refine lv_aload_n hx hb dX8_hearInRecovery_26 rfl (lv_at hl 0 rfl) ?_
      refine lv_iconst (v := 0) hx hb dX8_hearInRecovery_27 (by decide) ?_
      refine va_put (D := D) (ci := 8) (v := .int 0) (ty := .boolean) (C := RX8) (T := TX8) (N := 20) hx hb ha inlX8 tyX8 tyX8_ok nmX8 hown hK hP hD hS 6 rfl rfl 11 (by decide) (ha _ kf_X8_86) (fun _ h9 => h9) rfl (by decide +kernel) rfl rfl (Nat.le_of_ble_eq_true rfl) dX8_hearInRecovery_28 (fun H locs hP hD hS => ?_)
      have hP : va_P D vwCl ([(r0, rdC ov (va_rf ol) r1 r2 r3 r4 r5), (r1, chC cf cl zn 0), (r2, chC cf cl zn 1), (r3, chC cf cl zn 2), (r4, chC cf cl zn 3), (r5, tlC cI tf), (h0, snC n0 k0 g0 (upd sv 11 0) h1 h2 h7), (h1, tmC tv), (h2, boC h3 h5 bv), (h3, mkC h4), (h4, .inl (cJ, 4, .inr (.inl f))), (h5, mkC h6), (h6, .inl (cJ, 4, .inr (.inl g))), (h7, cuC cv)] ++ va_pl L (pf cJ kd pi bd af bo)) H := hP
      have hD : va_D A ([(r0, rdC ov (va_rf ol) r1 r2 r3 r4 r5), (r1, chC cf cl zn 0), (r2, chC cf cl zn 1), (r3, chC cf cl zn 2), (r4, chC cf cl zn 3), (r5, tlC cI tf), (h0, snC n0 k0 g0 (upd sv 11 0) h1 h2 h7), (h1, tmC tv), (h2, boC h3 h5 bv), (h3, mkC h4), (h4, .inl (cJ, 4, .inr (.inl f))), (h5, mkC h6), (h6, .inl (cJ, 4, .inr (.inl g))), (h7, cuC cv)] ++ va_pl L (pf cJ kd pi bd af bo)) := hD
      generalize hg_131 : upd sv 11 0 = sv at hP hD
      have hE := bs_at hg_131 hE
      refine lv_aload_n hx hb dX8_hearInRecovery_31 rfl (lv_at hl 0 rfl) ?_
      refine lv_iconst (v := 0) hx hb dX8_hearInRecovery_32 (by decide) ?_
      refine va_put (D := D) (ci := 8) (v := .int 0) (ty := .int) (C := RX8) (T := TX8) (N := 20) hx hb ha inlX8 tyX8 tyX8_ok nmX8 hown hK hP hD hS 6 rfl rfl 10 (by decide) (ha _ kf_X8_93) (fun _ h9 => h9) rfl (by decide +kernel) rfl rfl (Nat.le_of_ble_eq_true rfl) dX8_hearInRecovery_33 (fun H locs hP hD hS => ?_)
      have hP : va_P D vwCl ([(r0, rdC ov (va_rf ol) r1 r2 r3 r4 r5), (r1, chC cf cl zn 0), (r2, chC cf cl zn 1), (r3, chC cf cl zn 2), (r4, chC cf cl zn 3), (r5, tlC cI tf), (h0, snC n0 k0 g0 (upd sv 10 0) h1 h2 h7), (h1, tmC tv), (h2, boC h3 h5 bv), (h3, mkC h4), (h4, .inl (cJ, 4, .inr (.inl f))), (h5, mkC h6), (h6, .inl (cJ, 4, .inr (.inl g))), (h7, cuC cv)] ++ va_pl L (pf cJ kd pi bd af bo)) H := hP
      have hD : va_D A ([(r0, rdC ov (va_rf ol) r1 r2 r3 r4 r5), (r1, chC cf cl zn 0), (r2, chC cf cl zn 1), (r3, chC cf cl zn 2), (r4, chC cf cl zn 3), (r5, tlC cI tf), (h0, snC n0 k0 g0 (upd sv 10 0) h1 h2 h7), (h1, tmC tv), (h2, boC h3 h5 bv), (h3, mkC h4), (h4, .inl (cJ, 4, .inr (.inl f))), (h5, mkC h6), (h6, .inl (cJ, 4, .inr (.inl g))), (h7, cuC cv)] ++ va_pl L (pf cJ kd pi bd af bo)) := hD
      generalize hg_132 : upd sv 10 0 = sv at hP hD
      have hE := bs_at hg_132 hE
      refine lv_goto (tgt := 81) hx hb dX8_hearInRecovery_36 (by decide) ?_
      refine W.know2 (fun hk1 hk2 => ?_)
      have hg0 : gr s.heap _ 0 := ⟨hk1, hk2⟩
      refine W.widen (k := 2) (n := 11) (Nat.le_of_ble_eq_true rfl) (Nat.le_of_ble_eq_true rfl) ?_
      have hP9 : va_P D vwCl ([(r0, rdC ov (va_rf ol) r1 r2 r3 r4 r5), (r1, chC cf cl zn 0), (r2, chC cf cl zn 1), (r3, chC cf cl zn 2), (r4, chC cf cl zn 3), (r5, tlC cI tf), (h0, snC n0 k0 g0 sv h1 h2 h7), (h1, tmC tv), (h2, boC h3 h5 bv), (h3, mkC h4), (h4, .inl (cJ, 4, .inr (.inl f))), (h5, mkC h6), (h6, .inl (cJ, 4, .inr (.inl g))), (h7, cuC cv)] ++ va_pl L (pf cJ kd pi bd af bo)) _ := hP
      have hD9 : va_D A ([(r0, rdC ov (va_rf ol) r1 r2 r3 r4 r5), (r1, chC cf cl zn 0), (r2, chC cf cl zn 1), (r3, chC cf cl zn 2), (r4, chC cf cl zn 3), (r5, tlC cI tf), (h0, snC n0 k0 g0 sv h1 h2 h7), (h1, tmC tv), (h2, boC h3 h5 bv), (h3, mkC h4), (h4, .inl (cJ, 4, .inr (.inl f))), (h5, mkC h6), (h6, .inl (cJ, 4, .inr (.inl g))), (h7, cuC cv)] ++ va_pl L (pf cJ kd pi bd af bo)) := hD
      exact W.vret hx hb hr (fun t ht hW => ⟨⟨(), rfl, trivial, ⟨sv, tv, bv, cv, f, g, ov, tf, ol, cf, cl, zn, xl, tag, L, kd, pi, bd, af, bo, 0, go, gq, ⟨⟨hR, hPB, hZ, hT, by rw [ht]; exact hg0, by omega, hLK, hQ⟩, ⟨hG, hJ⟩, (by rw [← hRES, hE]), (by rw [← hRES, hE]), (by rw [← hRES, hE]), (by rw [← hRES, hE]), (by rw [← hRES, hE]), (by rw [← hRES, hE]), (by rw [← hRES, hE]), (by rw [← hRES, hE]), (by rw [← hRES, hE]), (by rw [← hRES, hE])⟩, by rw [ht]; exact hP9, va_K.moved hW.alike hK, hD9⟩⟩, hS.F ht⟩) hS.2.2 dX8_hearInRecovery_81

set_option maxRecDepth 100000 in
def xc_beginRec (ov : Nat → Int32) (go : Option S4) (gq : List S3) (tf : Nat → Int32) (n0 : Int32) (k0 : Int32) (g0 : Int32) (sv : Nat → Int32) (tv : Nat → Int32) (bv : Nat → Int32) (cv : Nat → Int32) (f : Nat → Int64) (g : Nat → Int64) (n1 : Int32) : (Nat → Int32) × (Nat → Int32) × (Nat → Int32) × (Nat → Int32) × (Nat → Int64) × (Nat → Int64) × (Nat → Int32) × (Nat → Int32) × (Option S4) × (List S3) := bd (xc_loss n0 k0 g0 sv tv bv cv f g) (fun t1 => bd (t1.1) (fun sv => bd (t1.2.1) (fun tv => bd (t1.2.2.1) (fun bv => bd (t1.2.2.2.1) (fun cv => bd (t1.2.2.2.2.1) (fun f => bd (t1.2.2.2.2.2.1) (fun g => bd (t1.2.2.2.2.2.2) (fun v2 => bd (upd sv 8 v2) (fun sv => bd (upd sv 11 (1 : Int32)) (fun sv => bd (sv 14) (fun v3 => bd (v3 + (1 : Int32)) (fun v4 => bd (upd sv 14 v4) (fun sv => bd (sv 5) (fun v5 => bd (upd sv 12 v5) (fun sv => bd (sv 3) (fun v6 => bd (xc_bbegin bv f g v6) (fun t7 => bd (t7.1) (fun bv => bd (t7.2.1) (fun f => bd (t7.2.2) (fun g => bd (sv 3) (fun v8 => bd (xc_transmit ov go gq tf n0 k0 g0 sv tv bv cv f g v8 n1) (fun t9 => bd (t9.1) (fun sv => bd (t9.2.1) (fun tv => bd (t9.2.2.1) (fun bv => bd (t9.2.2.2.1) (fun cv => bd (t9.2.2.2.2.1) (fun f => bd (t9.2.2.2.2.2.1) (fun g => bd (t9.2.2.2.2.2.2.1) (fun ov => bd (t9.2.2.2.2.2.2.2.1) (fun tf => bd (t9.2.2.2.2.2.2.2.2.1) (fun go => bd (t9.2.2.2.2.2.2.2.2.2) (fun gq => (if k0 = (3 : Int32) then bd (sv 8) (fun v13 => bd (xc_setCwnd n0 k0 g0 sv tv bv cv f g v13) (fun t14 => bd (t14.1) (fun sv => bd (t14.2.1) (fun tv => bd (t14.2.2.1) (fun bv => bd (t14.2.2.2.1) (fun cv => bd (t14.2.2.2.2.1) (fun f => bd (t14.2.2.2.2.2) (fun g => (sv, tv, bv, cv, f, g, ov, tf, go, gq))))))))) else bd (sv 8) (fun v10 => bd (v10 + (3072 : Int32)) (fun v11 => bd (xc_setCwnd n0 k0 g0 sv tv bv cv f g v11) (fun t12 => bd (t12.1) (fun sv => bd (t12.2.1) (fun tv => bd (t12.2.2.1) (fun bv => bd (t12.2.2.2.1) (fun cv => bd (t12.2.2.2.2.1) (fun f => bd (t12.2.2.2.2.2) (fun g => (sv, tv, bv, cv, f, g, ov, tf, go, gq)))))))))))))))))))))))))))))))))))))))))))
set_option maxHeartbeats 4000000 in
set_option maxRecDepth 100000 in
theorem s_beginRec (l : Launch) (D : va_G) (cI cJ cZ cO : ClassId) (Hh : Heap) (r0 r1 r2 r3 r4 r5 : Nat) (ov : Nat → Int32) (ol : Option Nat) (cf cl : Nat → Option Nat) (zn : Nat → Int32) (xl : Nat → List Nat) (tag : Nat → Nat) (L : List Nat) (kd : Nat → Bool) (pi : Nat → Nat → Int32) (bd : Nat → Nat) (af : Nat → Option Nat) (bo : Nat → Nat → Int64) (go : Option S4) (gq : List S3) (gw : List S4) (ga : List A6) (tf : Nat → Int32) (h0 h1 h2 h3 h4 h5 h6 h7 : Nat) (n0 k0 g0 : Int32) (sv tv bv cv : Nat → Int32) (f g : Nat → Int64) (n1 : Int32) (hR : RI L kd af tag cf cl xl ol) (hPB : PB L kd pi bd) (hZ : ZN zn xl) (hG : GG xl pi bd bo ol go gq gw ga) (hJ : JB L kd bd) (hT : 0 ≤ ov 10) (hLK : LK ov) (hq0 : (xl 0).length ≤ 100) : Met l yX8_beginRecovery (wa yX8_beginRecovery cX8_beginRecovery 3 none) ({ frames := 4, cells := 2, slots := 11, locals := 90 }) (va_Pc [.ref h0, .ref r0, .int n1] (pw_h D cI cJ cZ cO Hh ([(r0, rdC ov (va_rf ol) r1 r2 r3 r4 r5), (r1, chC cf cl zn 0), (r2, chC cf cl zn 1), (r3, chC cf cl zn 2), (r4, chC cf cl zn 3), (r5, tlC cI tf), (h0, snC n0 k0 g0 sv h1 h2 h7), (h1, tmC tv), (h2, boC h3 h5 bv), (h3, mkC h4), (h4, .inl (cJ, 4, .inr (.inl f))), (h5, mkC h6), (h6, .inl (cJ, 4, .inr (.inl g))), (h7, cuC cv)] ++ va_pl L (pf cJ kd pi bd af bo)))) (va_Qv (fun (_ : Unit) => True) (fun (_ : Unit) (t : State) => ∃ (sv2 tv2 bv2 cv2 : Nat → Int32) (f2 g2 : Nat → Int64) (ov2 tf2 : Nat → Int32) (ol2 : Option Nat) (cf2 cl2 : Nat → Option Nat) (zn2 : Nat → Int32) (xl2 : Nat → List Nat) (tag2 : Nat → Nat) (L2 : List Nat) (kd2 : Nat → Bool) (pi2 : Nat → Nat → Int32) (bd2 : Nat → Nat) (af2 : Nat → Option Nat) (bo2 : Nat → Nat → Int64) (b2 : Nat) (go2 : Option S4) (gq2 : List S3), ((RI L2 kd2 af2 tag2 cf2 cl2 xl2 ol2 ∧ PB L2 kd2 pi2 bd2 ∧ ZN zn2 xl2 ∧ 0 ≤ ov2 10 ∧ gr Hh t.heap b2 ∧ b2 ≤ 1 ∧ LK ov2 ∧ QQ L kd tag xl pi ol L2 kd2 tag2 xl2 pi2 ol2 [] [] b2 0) ∧ (GG xl2 pi2 bd2 bo2 ol2 go2 gq2 gw ga ∧ JB L2 kd2 bd2) ∧ sv2 = (xc_beginRec ov go gq tf n0 k0 g0 sv tv bv cv f g n1).1 ∧ tv2 = (xc_beginRec ov go gq tf n0 k0 g0 sv tv bv cv f g n1).2.1 ∧ bv2 = (xc_beginRec ov go gq tf n0 k0 g0 sv tv bv cv f g n1).2.2.1 ∧ cv2 = (xc_beginRec ov go gq tf n0 k0 g0 sv tv bv cv f g n1).2.2.2.1 ∧ f2 = (xc_beginRec ov go gq tf n0 k0 g0 sv tv bv cv f g n1).2.2.2.2.1 ∧ g2 = (xc_beginRec ov go gq tf n0 k0 g0 sv tv bv cv f g n1).2.2.2.2.2.1 ∧ ov2 = (xc_beginRec ov go gq tf n0 k0 g0 sv tv bv cv f g n1).2.2.2.2.2.2.1 ∧ tf2 = (xc_beginRec ov go gq tf n0 k0 g0 sv tv bv cv f g n1).2.2.2.2.2.2.2.1 ∧ go2 = (xc_beginRec ov go gq tf n0 k0 g0 sv tv bv cv f g n1).2.2.2.2.2.2.2.2.1 ∧ gq2 = (xc_beginRec ov go gq tf n0 k0 g0 sv tv bv cv f g n1).2.2.2.2.2.2.2.2.2) ∧ pw_t D cI cJ cZ cO (va_A ([(r0, rdC ov (va_rf ol) r1 r2 r3 r4 r5), (r1, chC cf cl zn 0), (r2, chC cf cl zn 1), (r3, chC cf cl zn 2), (r4, chC cf cl zn 3), (r5, tlC cI tf), (h0, snC n0 k0 g0 sv h1 h2 h7), (h1, tmC tv), (h2, boC h3 h5 bv), (h3, mkC h4), (h4, .inl (cJ, 4, .inr (.inl f))), (h5, mkC h6), (h6, .inl (cJ, 4, .inr (.inl g))), (h7, cuC cv)] ++ va_pl L (pf cJ kd pi bd af bo)) Hh.size) ([(r0, rdC ov2 (va_rf ol2) r1 r2 r3 r4 r5), (r1, chC cf2 cl2 zn2 0), (r2, chC cf2 cl2 zn2 1), (r3, chC cf2 cl2 zn2 2), (r4, chC cf2 cl2 zn2 3), (r5, tlC cI tf2), (h0, snC n0 k0 g0 sv2 h1 h2 h7), (h1, tmC tv2), (h2, boC h3 h5 bv2), (h3, mkC h4), (h4, .inl (cJ, 4, .inr (.inl f2))), (h5, mkC h6), (h6, .inl (cJ, 4, .inr (.inl g2))), (h7, cuC cv2)] ++ va_pl L2 (pf cJ kd2 pi2 bd2 af2 bo2)) t) (va_A ([(r0, rdC ov (va_rf ol) r1 r2 r3 r4 r5), (r1, chC cf cl zn 0), (r2, chC cf cl zn 1), (r3, chC cf cl zn 2), (r4, chC cf cl zn 3), (r5, tlC cI tf), (h0, snC n0 k0 g0 sv h1 h2 h7), (h1, tmC tv), (h2, boC h3 h5 bv), (h3, mkC h4), (h4, .inl (cJ, 4, .inr (.inl f))), (h5, mkC h6), (h6, .inl (cJ, 4, .inr (.inl g))), (h7, cuC cv)] ++ va_pl L (pf cJ kd pi bd af bo)) Hh.size)) 2 11 (va_A ([(r0, rdC ov (va_rf ol) r1 r2 r3 r4 r5), (r1, chC cf cl zn 0), (r2, chC cf cl zn 1), (r3, chC cf cl zn 2), (r4, chC cf cl zn 3), (r5, tlC cI tf), (h0, snC n0 k0 g0 sv h1 h2 h7), (h1, tmC tv), (h2, boC h3 h5 bv), (h3, mkC h4), (h4, .inl (cJ, 4, .inr (.inl f))), (h5, mkC h6), (h6, .inl (cJ, 4, .inr (.inl g))), (h7, cuC cv)] ++ va_pl L (pf cJ kd pi bd af bo)) Hh.size) := by
  refine Met.ofW (cc := cX8_beginRecovery) (maxL := 3) (ret := none) (by decide) rfl ?_
  intro p e s m args below meth c s₁ B hml hv
  obtain ⟨rfl, hsz, hP, hK, hD0, hN⟩ := hv
  have hx := B.exec
  have hb := B.bytes
  have hr := B.returns
  have hts := atoms_spec (ws := (wa yX8_beginRecovery cX8_beginRecovery 3 none)) B.pre
  have ha : ∀ w ∈ wsL_law, w.before _ s = true := fun w h => hts w (List.mem_cons_of_mem _ h)
  have hown : s.vm.findClass RX8 = some m.cls := findClass_of_methodNamed B.named
  have hlocks := B.notSynchronized
  subst hsz
  have hD := hD0.self (sz := s.heap.size)
  generalize hAe : va_A ([(r0, rdC ov (va_rf ol) r1 r2 r3 r4 r5), (r1, chC cf cl zn 0), (r2, chC cf cl zn 1), (r3, chC cf cl zn 2), (r4, chC cf cl zn 3), (r5, tlC cI tf), (h0, snC n0 k0 g0 sv h1 h2 h7), (h1, tmC tv), (h2, boC h3 h5 bv), (h3, mkC h4), (h4, .inl (cJ, 4, .inr (.inl f))), (h5, mkC h6), (h6, .inl (cJ, 4, .inr (.inl g))), (h7, cuC cv)] ++ va_pl L (pf cJ kd pi bd af bo)) s.heap.size = A at hD ⊢
  have hA : ∀ q : Nat, s.heap.size ≤ q → A q := fun q h => by rw [← hAe]; exact Or.inr h
  have hS : va_S A s.heap s.heap [] := va_S.rf
  have hP : va_P D vwCl ([(r0, rdC ov (va_rf ol) r1 r2 r3 r4 r5), (r1, chC cf cl zn 0), (r2, chC cf cl zn 1), (r3, chC cf cl zn 2), (r4, chC cf cl zn 3), (r5, tlC cI tf), (h0, snC n0 k0 g0 sv h1 h2 h7), (h1, tmC tv), (h2, boC h3 h5 bv), (h3, mkC h4), (h4, .inl (cJ, 4, .inr (.inl f))), (h5, mkC h6), (h6, .inl (cJ, 4, .inr (.inl g))), (h7, cuC cv)] ++ va_pl L (pf cJ kd pi bd af bo)) s.heap := hP
  have hl := lv_entry ([.ref h0, .ref r0, .int n1]) (n := 3) (Nat.le_of_ble_eq_true rfl)
  rw [lg_entry_eq]
  generalize (lg_sl ([.ref h0, .ref r0, .int n1]) ++ List.replicate (3 - (lg_sl ([.ref h0, .ref r0, .int n1])).length) Slot.unset).toArray = ls at hl ⊢
  have hl : lv_has ls 3 [(0, .ref h0), (1, .ref r0), (2, .int n1)] := hl
  obtain ⟨QP, hQP⟩ : ∃ y : State → Prop, y = (MQ below (va_Qv (fun (_ : Unit) => True) (fun (_ : Unit) (t : State) => ∃ (sv2 tv2 bv2 cv2 : Nat → Int32) (f2 g2 : Nat → Int64) (ov2 tf2 : Nat → Int32) (ol2 : Option Nat) (cf2 cl2 : Nat → Option Nat) (zn2 : Nat → Int32) (xl2 : Nat → List Nat) (tag2 : Nat → Nat) (L2 : List Nat) (kd2 : Nat → Bool) (pi2 : Nat → Nat → Int32) (bd2 : Nat → Nat) (af2 : Nat → Option Nat) (bo2 : Nat → Nat → Int64) (b2 : Nat) (go2 : Option S4) (gq2 : List S3), ((RI L2 kd2 af2 tag2 cf2 cl2 xl2 ol2 ∧ PB L2 kd2 pi2 bd2 ∧ ZN zn2 xl2 ∧ 0 ≤ ov2 10 ∧ gr s.heap t.heap b2 ∧ b2 ≤ 1 ∧ LK ov2 ∧ QQ L kd tag xl pi ol L2 kd2 tag2 xl2 pi2 ol2 [] [] b2 0) ∧ (GG xl2 pi2 bd2 bo2 ol2 go2 gq2 gw ga ∧ JB L2 kd2 bd2) ∧ sv2 = (xc_beginRec ov go gq tf n0 k0 g0 sv tv bv cv f g n1).1 ∧ tv2 = (xc_beginRec ov go gq tf n0 k0 g0 sv tv bv cv f g n1).2.1 ∧ bv2 = (xc_beginRec ov go gq tf n0 k0 g0 sv tv bv cv f g n1).2.2.1 ∧ cv2 = (xc_beginRec ov go gq tf n0 k0 g0 sv tv bv cv f g n1).2.2.2.1 ∧ f2 = (xc_beginRec ov go gq tf n0 k0 g0 sv tv bv cv f g n1).2.2.2.2.1 ∧ g2 = (xc_beginRec ov go gq tf n0 k0 g0 sv tv bv cv f g n1).2.2.2.2.2.1 ∧ ov2 = (xc_beginRec ov go gq tf n0 k0 g0 sv tv bv cv f g n1).2.2.2.2.2.2.1 ∧ tf2 = (xc_beginRec ov go gq tf n0 k0 g0 sv tv bv cv f g n1).2.2.2.2.2.2.2.1 ∧ go2 = (xc_beginRec ov go gq tf n0 k0 g0 sv tv bv cv f g n1).2.2.2.2.2.2.2.2.1 ∧ gq2 = (xc_beginRec ov go gq tf n0 k0 g0 sv tv bv cv f g n1).2.2.2.2.2.2.2.2.2) ∧ pw_t D cI cJ cZ cO A ([(r0, rdC ov2 (va_rf ol2) r1 r2 r3 r4 r5), (r1, chC cf2 cl2 zn2 0), (r2, chC cf2 cl2 zn2 1), (r3, chC cf2 cl2 zn2 2), (r4, chC cf2 cl2 zn2 3), (r5, tlC cI tf2), (h0, snC n0 k0 g0 sv2 h1 h2 h7), (h1, tmC tv2), (h2, boC h3 h5 bv2), (h3, mkC h4), (h4, .inl (cJ, 4, .inr (.inl f2))), (h5, mkC h6), (h6, .inl (cJ, 4, .inr (.inl g2))), (h7, cuC cv2)] ++ va_pl L2 (pf cJ kd2 pi2 bd2 af2 bo2)) t) A) #[(.ref h0 : Value), (.ref r0 : Value), (.int n1 : Value)] s 2 11 A) := ⟨_, rfl⟩
  obtain ⟨RES, hRES⟩ : ∃ y, y = (xc_beginRec ov go gq tf n0 k0 g0 sv tv bv cv f g n1) := ⟨_, rfl⟩
  have hQ : QQ L kd tag xl pi ol L kd tag xl pi ol [] [] 0 0 := QQ_rf
  -- from the entry
  have hE := hRES
  unfold xc_beginRec at hE
  refine lv_aload_n hx hb dX8_beginRecovery_0 rfl (lv_at hl 0 rfl) ?_
  refine lv_aload_n hx hb dX8_beginRecovery_1 rfl (lv_at hl 0 rfl) ?_
  have hPc := hP.sub (ws' := [(h0, snC n0 k0 g0 sv h1 h2 h7), (h1, tmC tv), (h2, boC h3 h5 bv), (h3, mkC h4), (h4, .inl (cJ, 4, .inr (.inl f))), (h5, mkC h6), (h6, .inl (cJ, 4, .inr (.inl g))), (h7, cuC cv)]) [6, 7, 8, 9, 10, 11, 12, 13] rfl
  have hDc := hD.sub (ws' := [(h0, snC n0 k0 g0 sv h1 h2 h7), (h1, tmC tv), (h2, boC h3 h5 bv), (h3, mkC h4), (h4, .inl (cJ, 4, .inr (.inl f))), (h5, mkC h6), (h6, .inl (cJ, 4, .inr (.inl g))), (h7, cuC cv)]) [6, 7, 8, 9, 10, 11, 12, 13] (by decide) rfl
  have hFc := va_free (wc := [(h0, snC n0 k0 g0 sv h1 h2 h7), (h1, tmC tv), (h2, boC h3 h5 bv), (h3, mkC h4), (h4, .inl (cJ, 4, .inr (.inl f))), (h5, mkC h6), (h6, .inl (cJ, 4, .inr (.inl g))), (h7, cuC cv)]) hD hS hA [6, 7, 8, 9, 10, 11, 12, 13] rfl
  refine va_calli (va_runV (As := []) (rest := [.ref h0]) ⟨hx, hb, hml, hown, ha⟩ (s_loss l D cI cJ cZ cO _ h0 h1 h2 h3 h4 h5 h6 h7 n0 k0 g0 sv tv bv cv f g) (cwV 0 ha (gaV kl_X8_224 km_X8_lossThreshold ks_X8_lossThreshold kz_X8 kd_X8_lossThreshold) rfl rfl rfl (by decide +kernel) ⟨Nat.le_of_ble_eq_true rfl, Nat.le_of_ble_eq_true rfl⟩) ⟨pw_blind, va_recv hK hPc (ci := 8) (q0 := 0) rfl rfl, fun U hU hW => ⟨rfl, pw_start hU hW hPc hK hDc hN⟩⟩ rfl rfl hl.1 rfl (lv_room (Nat.le_of_ble_eq_true rfl)) dX8_beginRecovery_2 ⟨Nat.le_of_ble_eq_true rfl, Nat.le_of_ble_eq_true rfl⟩) hS (fun q _ h => hFc q h) hFc (fun r_68 u t H1 locs ht hvm hw hB hz1 hk1 hS => ?_)
  obtain ⟨sv, tv, bv, cv, f, g, ⟨hX0, hX1, hX2, hX3, hX4, hX5⟩, hP1, hK1, hD1⟩ := hB
  have hE := bd_at rfl hE
  have hE := bd_at hX0 hE
  have hE := bd_at hX1 hE
  have hE := bd_at hX2 hE
  have hE := bd_at hX3 hE
  have hE := bd_at hX4 hE
  have hE := bd_at hX5 hE
  have hE := bd_at hw.2 hE
  rw [ht] at hP1
  obtain ⟨hP, hD⟩ := va_joinQ (wr := [(r0, rdC ov (va_rf ol) r1 r2 r3 r4 r5), (r1, chC cf cl zn 0), (r2, chC cf cl zn 1), (r3, chC cf cl zn 2), (r4, chC cf cl zn 3), (r5, tlC cI tf)]) (w1 := [(h0, snC n0 k0 g0 sv h1 h2 h7), (h1, tmC tv), (h2, boC h3 h5 bv), (h3, mkC h4), (h4, .inl (cJ, 4, .inr (.inl f))), (h5, mkC h6), (h6, .inl (cJ, 4, .inr (.inl g))), (h7, cuC cv)]) hP hD [6, 7, 8, 9, 10, 11, 12, 13] [0, 1, 2, 3, 4, 5] rfl rfl (by decide) (by decide) hk1 hFc hP1 hD1
  generalize H1 = H at hP hS ⊢
  have hP : va_P D vwCl ([(r0, rdC ov (va_rf ol) r1 r2 r3 r4 r5), (r1, chC cf cl zn 0), (r2, chC cf cl zn 1), (r3, chC cf cl zn 2), (r4, chC cf cl zn 3), (r5, tlC cI tf), (h0, snC n0 k0 g0 sv h1 h2 h7), (h1, tmC tv), (h2, boC h3 h5 bv), (h3, mkC h4), (h4, .inl (cJ, 4, .inr (.inl f))), (h5, mkC h6), (h6, .inl (cJ, 4, .inr (.inl g))), (h7, cuC cv)] ++ va_pl L (pf cJ kd pi bd af bo)) H := hP
  have hD : va_D A ([(r0, rdC ov (va_rf ol) r1 r2 r3 r4 r5), (r1, chC cf cl zn 0), (r2, chC cf cl zn 1), (r3, chC cf cl zn 2), (r4, chC cf cl zn 3), (r5, tlC cI tf), (h0, snC n0 k0 g0 sv h1 h2 h7), (h1, tmC tv), (h2, boC h3 h5 bv), (h3, mkC h4), (h4, .inl (cJ, 4, .inr (.inl f))), (h5, mkC h6), (h6, .inl (cJ, 4, .inr (.inl g))), (h7, cuC cv)] ++ va_pl L (pf cJ kd pi bd af bo)) := hD
  refine W.widen (k := 0) (n := 0) (Nat.le_of_ble_eq_true rfl) (Nat.le_of_ble_eq_true rfl) ?_
  have hr_68 := hw.1
  refine va_put (D := D) (ci := 8) (v := .int r_68) (ty := .int) (C := RX8) (T := TX8) (N := 20) hx hb ha inlX8 tyX8 tyX8_ok nmX8 hown hK hP hD hS 6 rfl rfl 8 (by decide) (ha _ kf_X8_19) (fun _ h9 => h9) rfl (by decide +kernel) rfl rfl (Nat.le_of_ble_eq_true rfl) dX8_beginRecovery_5 (fun H locs hP hD hS => ?_)
  have hP : va_P D vwCl ([(r0, rdC ov (va_rf ol) r1 r2 r3 r4 r5), (r1, chC cf cl zn 0), (r2, chC cf cl zn 1), (r3, chC cf cl zn 2), (r4, chC cf cl zn 3), (r5, tlC cI tf), (h0, snC n0 k0 g0 (upd sv 8 r_68) h1 h2 h7), (h1, tmC tv), (h2, boC h3 h5 bv), (h3, mkC h4), (h4, .inl (cJ, 4, .inr (.inl f))), (h5, mkC h6), (h6, .inl (cJ, 4, .inr (.inl g))), (h7, cuC cv)] ++ va_pl L (pf cJ kd pi bd af bo)) H := hP
  have hD : va_D A ([(r0, rdC ov (va_rf ol) r1 r2 r3 r4 r5), (r1, chC cf cl zn 0), (r2, chC cf cl zn 1), (r3, chC cf cl zn 2), (r4, chC cf cl zn 3), (r5, tlC cI tf), (h0, snC n0 k0 g0 (upd sv 8 r_68) h1 h2 h7), (h1, tmC tv), (h2, boC h3 h5 bv), (h3, mkC h4), (h4, .inl (cJ, 4, .inr (.inl f))), (h5, mkC h6), (h6, .inl (cJ, 4, .inr (.inl g))), (h7, cuC cv)] ++ va_pl L (pf cJ kd pi bd af bo)) := hD
  generalize hg_76 : upd sv 8 r_68 = sv at hP hD
  have hE := bs_at hg_76 hE
  refine lv_aload_n hx hb dX8_beginRecovery_8 rfl (lv_at hl 0 rfl) ?_
  refine lv_iconst (v := 1) hx hb dX8_beginRecovery_9 (by decide) ?_
  refine va_put (D := D) (ci := 8) (v := .int 1) (ty := .boolean) (C := RX8) (T := TX8) (N := 20) hx hb ha inlX8 tyX8 tyX8_ok nmX8 hown hK hP hD hS 6 rfl rfl 11 (by decide) (ha _ kf_X8_86) (fun _ h9 => h9) rfl (by decide +kernel) rfl rfl (Nat.le_of_ble_eq_true rfl) dX8_beginRecovery_10 (fun H locs hP hD hS => ?_)
  have hP : va_P D vwCl ([(r0, rdC ov (va_rf ol) r1 r2 r3 r4 r5), (r1, chC cf cl zn 0), (r2, chC cf cl zn 1), (r3, chC cf cl zn 2), (r4, chC cf cl zn 3), (r5, tlC cI tf), (h0, snC n0 k0 g0 (upd sv 11 1) h1 h2 h7), (h1, tmC tv), (h2, boC h3 h5 bv), (h3, mkC h4), (h4, .inl (cJ, 4, .inr (.inl f))), (h5, mkC h6), (h6, .inl (cJ, 4, .inr (.inl g))), (h7, cuC cv)] ++ va_pl L (pf cJ kd pi bd af bo)) H := hP
  have hD : va_D A ([(r0, rdC ov (va_rf ol) r1 r2 r3 r4 r5), (r1, chC cf cl zn 0), (r2, chC cf cl zn 1), (r3, chC cf cl zn 2), (r4, chC cf cl zn 3), (r5, tlC cI tf), (h0, snC n0 k0 g0 (upd sv 11 1) h1 h2 h7), (h1, tmC tv), (h2, boC h3 h5 bv), (h3, mkC h4), (h4, .inl (cJ, 4, .inr (.inl f))), (h5, mkC h6), (h6, .inl (cJ, 4, .inr (.inl g))), (h7, cuC cv)] ++ va_pl L (pf cJ kd pi bd af bo)) := hD
  generalize hg_77 : upd sv 11 1 = sv at hP hD
  have hE := bs_at hg_77 hE
  refine lv_aload_n hx hb dX8_beginRecovery_13 rfl (lv_at hl 0 rfl) ?_
  refine lv_dup hx hb dX8_beginRecovery_14 rfl ?_
  refine va_get (D := D) (ci := 8) (v := .int (sv 14)) (C := RX8) (T := TX8) (N := 20) hx hb ha inlX8 hown hK hP 6 rfl rfl 14 (by decide) (ha _ kf_X8_153) (fun _ h9 => h9) rfl dX8_beginRecovery_15 ?_
  refine lv_topi (fun x_78 ex_78 => ?_)
  have hE := bd_at ex_78 hE
  refine lv_iconst (v := 1) hx hb dX8_beginRecovery_18 (by decide) ?_
  refine lv_iadd hx hb dX8_beginRecovery_19 ?_
  refine lv_topi (fun x_79 ex_79 => ?_)
  have hE := bd_at ex_79 hE
  refine va_put (D := D) (ci := 8) (v := .int x_79) (ty := .int) (C := RX8) (T := TX8) (N := 20) hx hb ha inlX8 tyX8 tyX8_ok nmX8 hown hK hP hD hS 6 rfl rfl 14 (by decide) (ha _ kf_X8_153) (fun _ h9 => h9) rfl (by decide +kernel) rfl rfl (Nat.le_of_ble_eq_true rfl) dX8_beginRecovery_20 (fun H locs hP hD hS => ?_)
  have hP : va_P D vwCl ([(r0, rdC ov (va_rf ol) r1 r2 r3 r4 r5), (r1, chC cf cl zn 0), (r2, chC cf cl zn 1), (r3, chC cf cl zn 2), (r4, chC cf cl zn 3), (r5, tlC cI tf), (h0, snC n0 k0 g0 (upd sv 14 x_79) h1 h2 h7), (h1, tmC tv), (h2, boC h3 h5 bv), (h3, mkC h4), (h4, .inl (cJ, 4, .inr (.inl f))), (h5, mkC h6), (h6, .inl (cJ, 4, .inr (.inl g))), (h7, cuC cv)] ++ va_pl L (pf cJ kd pi bd af bo)) H := hP
  have hD : va_D A ([(r0, rdC ov (va_rf ol) r1 r2 r3 r4 r5), (r1, chC cf cl zn 0), (r2, chC cf cl zn 1), (r3, chC cf cl zn 2), (r4, chC cf cl zn 3), (r5, tlC cI tf), (h0, snC n0 k0 g0 (upd sv 14 x_79) h1 h2 h7), (h1, tmC tv), (h2, boC h3 h5 bv), (h3, mkC h4), (h4, .inl (cJ, 4, .inr (.inl f))), (h5, mkC h6), (h6, .inl (cJ, 4, .inr (.inl g))), (h7, cuC cv)] ++ va_pl L (pf cJ kd pi bd af bo)) := hD
  generalize hg_80 : upd sv 14 x_79 = sv at hP hD
  have hE := bs_at hg_80 hE
  refine lv_aload_n hx hb dX8_beginRecovery_23 rfl (lv_at hl 0 rfl) ?_
  refine lv_aload_n hx hb dX8_beginRecovery_24 rfl (lv_at hl 0 rfl) ?_
  refine va_get (D := D) (ci := 8) (v := .int (sv 5)) (C := RX8) (T := TX8) (N := 20) hx hb ha inlX8 hown hK hP 6 rfl rfl 5 (by decide) (ha _ kf_X8_79) (fun _ h9 => h9) rfl dX8_beginRecovery_25 ?_
  refine lv_topi (fun x_81 ex_81 => ?_)
  have hE := bd_at ex_81 hE
  refine va_put (D := D) (ci := 8) (v := .int x_81) (ty := .int) (C := RX8) (T := TX8) (N := 20) hx hb ha inlX8 tyX8 tyX8_ok nmX8 hown hK hP hD hS 6 rfl rfl 12 (by decide) (ha _ kf_X8_216) (fun _ h9 => h9) rfl (by decide +kernel) rfl rfl (Nat.le_of_ble_eq_true rfl) dX8_beginRecovery_28 (fun H locs hP hD hS => ?_)
  have hP : va_P D vwCl ([(r0, rdC ov (va_rf ol) r1 r2 r3 r4 r5), (r1, chC cf cl zn 0), (r2, chC cf cl zn 1), (r3, chC cf cl zn 2), (r4, chC cf cl zn 3), (r5, tlC cI tf), (h0, snC n0 k0 g0 (upd sv 12 x_81) h1 h2 h7), (h1, tmC tv), (h2, boC h3 h5 bv), (h3, mkC h4), (h4, .inl (cJ, 4, .inr (.inl f))), (h5, mkC h6), (h6, .inl (cJ, 4, .inr (.inl g))), (h7, cuC cv)] ++ va_pl L (pf cJ kd pi bd af bo)) H := hP
  have hD : va_D A ([(r0, rdC ov (va_rf ol) r1 r2 r3 r4 r5), (r1, chC cf cl zn 0), (r2, chC cf cl zn 1), (r3, chC cf cl zn 2), (r4, chC cf cl zn 3), (r5, tlC cI tf), (h0, snC n0 k0 g0 (upd sv 12 x_81) h1 h2 h7), (h1, tmC tv), (h2, boC h3 h5 bv), (h3, mkC h4), (h4, .inl (cJ, 4, .inr (.inl f))), (h5, mkC h6), (h6, .inl (cJ, 4, .inr (.inl g))), (h7, cuC cv)] ++ va_pl L (pf cJ kd pi bd af bo)) := hD
  generalize hg_82 : upd sv 12 x_81 = sv at hP hD
  have hE := bs_at hg_82 hE
  refine lv_aload_n hx hb dX8_beginRecovery_31 rfl (lv_at hl 0 rfl) ?_
  refine va_get (D := D) (ci := 8) (v := .ref h2) (C := RX8) (T := TX8) (N := 20) hx hb ha inlX8 hown hK hP 6 rfl rfl 18 (by decide) (ha _ kf_X8_35) (fun _ h9 => h9) rfl dX8_beginRecovery_32 ?_
  refine lv_aload_n hx hb dX8_beginRecovery_35 rfl (lv_at hl 0 rfl) ?_
  refine va_get (D := D) (ci := 8) (v := .int (sv 3)) (C := RX8) (T := TX8) (N := 20) hx hb ha inlX8 hown hK hP 6 rfl rfl 3 (by decide) (ha _ kf_X8_59) (fun _ h9 => h9) rfl dX8_beginRecovery_36 ?_
  refine lv_topi (fun x_83 ex_83 => ?_)
  have hE := bd_at ex_83 hE
  have hPc := hP.sub (ws' := [(h2, boC h3 h5 bv), (h3, mkC h4), (h4, .inl (cJ, 4, .inr (.inl f))), (h5, mkC h6), (h6, .inl (cJ, 4, .inr (.inl g)))]) [8, 9, 10, 11, 12] rfl
  have hDc := hD.sub (ws' := [(h2, boC h3 h5 bv), (h3, mkC h4), (h4, .inl (cJ, 4, .inr (.inl f))), (h5, mkC h6), (h6, .inl (cJ, 4, .inr (.inl g)))]) [8, 9, 10, 11, 12] (by decide) rfl
  have hFc := va_free (wc := [(h2, boC h3 h5 bv), (h3, mkC h4), (h4, .inl (cJ, 4, .inr (.inl f))), (h5, mkC h6), (h6, .inl (cJ, 4, .inr (.inl g)))]) hD hS hA [8, 9, 10, 11, 12] rfl
  refine va_callv (va_runV (As := [.int x_83]) (rest := []) ⟨hx, hb, hml, hown, ha⟩ (s_bbegin l D cI cJ cZ cO _ h2 h3 h4 h5 h6 bv f g x_83) (cwV 1 ha (gaV kl_X8_227 km_X0_beginRecovery ks_X0_beginRecovery kz_X0 kd_X0_beginRecovery) rfl rfl rfl (by decide +kernel) ⟨Nat.le_of_ble_eq_true rfl, Nat.le_of_ble_eq_true rfl⟩) ⟨pw_blind, va_recv hK hPc (ci := 0) (q0 := 0) rfl rfl, fun U hU hW => ⟨rfl, pw_start hU hW hPc hK hDc hN⟩⟩ rfl rfl hl.1 rfl (lv_room (Nat.le_of_ble_eq_true rfl)) dX8_beginRecovery_39 ⟨Nat.le_of_ble_eq_true rfl, Nat.le_of_ble_eq_true rfl⟩) hS (fun q _ h => hFc q h) hFc (fun u t H1 locs ht hvm hw hB hz1 hk1 hS => ?_)
  obtain ⟨bv, f, g, ⟨hX0, hX1, hX2⟩, hP1, hK1, hD1⟩ := hB
  have hE := bd_at rfl hE
  have hE := bd_at hX0 hE
  have hE := bd_at hX1 hE
  have hE := bd_at hX2 hE
  rw [ht] at hP1
  obtain ⟨hP, hD⟩ := va_joinQ (wr := [(r0, rdC ov (va_rf ol) r1 r2 r3 r4 r5), (r1, chC cf cl zn 0), (r2, chC cf cl zn 1), (r3, chC cf cl zn 2), (r4, chC cf cl zn 3), (r5, tlC cI tf), (h0, snC n0 k0 g0 sv h1 h2 h7), (h1, tmC tv), (h7, cuC cv)]) (w1 := [(h2, boC h3 h5 bv), (h3, mkC h4), (h4, .inl (cJ, 4, .inr (.inl f))), (h5, mkC h6), (h6, .inl (cJ, 4, .inr (.inl g)))]) hP hD [8, 9, 10, 11, 12] [0, 1, 2, 3, 4, 5, 6, 7, 13] rfl rfl (by decide) (by decide) hk1 hFc hP1 hD1
  generalize H1 = H at hP hS ⊢
  have hP : va_P D vwCl ([(r0, rdC ov (va_rf ol) r1 r2 r3 r4 r5), (r1, chC cf cl zn 0), (r2, chC cf cl zn 1), (r3, chC cf cl zn 2), (r4, chC cf cl zn 3), (r5, tlC cI tf), (h0, snC n0 k0 g0 sv h1 h2 h7), (h1, tmC tv), (h7, cuC cv), (h2, boC h3 h5 bv), (h3, mkC h4), (h4, .inl (cJ, 4, .inr (.inl f))), (h5, mkC h6), (h6, .inl (cJ, 4, .inr (.inl g)))] ++ va_pl L (pf cJ kd pi bd af bo)) H := hP
  have hD : va_D A ([(r0, rdC ov (va_rf ol) r1 r2 r3 r4 r5), (r1, chC cf cl zn 0), (r2, chC cf cl zn 1), (r3, chC cf cl zn 2), (r4, chC cf cl zn 3), (r5, tlC cI tf), (h0, snC n0 k0 g0 sv h1 h2 h7), (h1, tmC tv), (h7, cuC cv), (h2, boC h3 h5 bv), (h3, mkC h4), (h4, .inl (cJ, 4, .inr (.inl f))), (h5, mkC h6), (h6, .inl (cJ, 4, .inr (.inl g)))] ++ va_pl L (pf cJ kd pi bd af bo)) := hD
  refine W.widen (k := 0) (n := 0) (Nat.le_of_ble_eq_true rfl) (Nat.le_of_ble_eq_true rfl) ?_
  refine lv_aload_n hx hb dX8_beginRecovery_42 rfl (lv_at hl 0 rfl) ?_
  refine lv_aload_n hx hb dX8_beginRecovery_43 rfl (lv_at hl 0 rfl) ?_
  refine va_get (D := D) (ci := 8) (v := .int (sv 3)) (C := RX8) (T := TX8) (N := 20) hx hb ha inlX8 hown hK hP 6 rfl rfl 3 (by decide) (ha _ kf_X8_59) (fun _ h9 => h9) rfl dX8_beginRecovery_44 ?_
  refine lv_topi (fun x_89 ex_89 => ?_)
  have hE := bd_at ex_89 hE
  refine lv_aload_n hx hb dX8_beginRecovery_47 rfl (lv_at hl 1 rfl) ?_
  refine lv_iload_n hx hb dX8_beginRecovery_48 rfl (lv_at hl 2 rfl) ?_
  have hPc := hP.part (X := [(r0, rdC ov (va_rf ol) r1 r2 r3 r4 r5), (r1, chC cf cl zn 0), (r2, chC cf cl zn 1), (r3, chC cf cl zn 2), (r4, chC cf cl zn 3), (r5, tlC cI tf), (h0, snC n0 k0 g0 sv h1 h2 h7), (h1, tmC tv), (h7, cuC cv), (h2, boC h3 h5 bv), (h3, mkC h4), (h4, .inl (cJ, 4, .inr (.inl f))), (h5, mkC h6), (h6, .inl (cJ, 4, .inr (.inl g)))]) (cx := [(r0, rdC ov (va_rf ol) r1 r2 r3 r4 r5), (r1, chC cf cl zn 0), (r2, chC cf cl zn 1), (r3, chC cf cl zn 2), (r4, chC cf cl zn 3), (r5, tlC cI tf), (h0, snC n0 k0 g0 sv h1 h2 h7), (h1, tmC tv), (h2, boC h3 h5 bv), (h3, mkC h4), (h4, .inl (cJ, 4, .inr (.inl f))), (h5, mkC h6), (h6, .inl (cJ, 4, .inr (.inl g))), (h7, cuC cv)]) (pl := va_pl L (pf cJ kd pi bd af bo)) [0, 1, 2, 3, 4, 5, 6, 7, 9, 10, 11, 12, 13, 8] rfl
  have hDc := hD.part (X := [(r0, rdC ov (va_rf ol) r1 r2 r3 r4 r5), (r1, chC cf cl zn 0), (r2, chC cf cl zn 1), (r3, chC cf cl zn 2), (r4, chC cf cl zn 3), (r5, tlC cI tf), (h0, snC n0 k0 g0 sv h1 h2 h7), (h1, tmC tv), (h7, cuC cv), (h2, boC h3 h5 bv), (h3, mkC h4), (h4, .inl (cJ, 4, .inr (.inl f))), (h5, mkC h6), (h6, .inl (cJ, 4, .inr (.inl g)))]) (cx := [(r0, rdC ov (va_rf ol) r1 r2 r3 r4 r5), (r1, chC cf cl zn 0), (r2, chC cf cl zn 1), (r3, chC cf cl zn 2), (r4, chC cf cl zn 3), (r5, tlC cI tf), (h0, snC n0 k0 g0 sv h1 h2 h7), (h1, tmC tv), (h2, boC h3 h5 bv), (h3, mkC h4), (h4, .inl (cJ, 4, .inr (.inl f))), (h5, mkC h6), (h6, .inl (cJ, 4, .inr (.inl g))), (h7, cuC cv)]) (pl := va_pl L (pf cJ kd pi bd af bo)) [0, 1, 2, 3, 4, 5, 6, 7, 9, 10, 11, 12, 13, 8] (by decide) rfl
  have hFc := va_freeP (X := [(r0, rdC ov (va_rf ol) r1 r2 r3 r4 r5), (r1, chC cf cl zn 0), (r2, chC cf cl zn 1), (r3, chC cf cl zn 2), (r4, chC cf cl zn 3), (r5, tlC cI tf), (h0, snC n0 k0 g0 sv h1 h2 h7), (h1, tmC tv), (h7, cuC cv), (h2, boC h3 h5 bv), (h3, mkC h4), (h4, .inl (cJ, 4, .inr (.inl f))), (h5, mkC h6), (h6, .inl (cJ, 4, .inr (.inl g)))]) (cx := [(r0, rdC ov (va_rf ol) r1 r2 r3 r4 r5), (r1, chC cf cl zn 0), (r2, chC cf cl zn 1), (r3, chC cf cl zn 2), (r4, chC cf cl zn 3), (r5, tlC cI tf), (h0, snC n0 k0 g0 sv h1 h2 h7), (h1, tmC tv), (h2, boC h3 h5 bv), (h3, mkC h4), (h4, .inl (cJ, 4, .inr (.inl f))), (h5, mkC h6), (h6, .inl (cJ, 4, .inr (.inl g))), (h7, cuC cv)]) (pl := va_pl L (pf cJ kd pi bd af bo)) hD hS hA [0, 1, 2, 3, 4, 5, 6, 7, 9, 10, 11, 12, 13, 8] rfl
  refine W.know2 (fun hka hkb => ?_)
  have hg0 : gr s.heap _ 0 := ⟨hka, hkb⟩
  have hle0 := hS.1
  refine va_callv (va_runV (As := [.int x_89, .ref r0, .int n1]) (rest := []) ⟨hx, hb, hml, hown, ha⟩ (s_transmit l D cI cJ cZ cO _ r0 r1 r2 r3 r4 r5 ov ol cf cl zn xl tag L kd pi bd af bo go gq gw ga tf h0 h1 h2 h3 h4 h5 h6 h7 n0 k0 g0 sv tv bv cv f g x_89 n1 hR hPB hZ hG hJ hT hLK hq0) (cwV 3 ha (gaV kl_X8_131 km_X8_transmit ks_X8_transmit kz_X8 kd_X8_transmit) rfl rfl rfl (by decide +kernel) ⟨Nat.le_of_ble_eq_true rfl, Nat.le_of_ble_eq_true rfl⟩) ⟨pw_blindh, va_recv hK hPc (ci := 8) (q0 := 6) rfl rfl, fun U hU hW => ⟨rfl, pw_starth hU hW hPc hK hDc hN⟩⟩ rfl rfl hl.1 rfl (lv_room (Nat.le_of_ble_eq_true rfl)) dX8_beginRecovery_49 ⟨Nat.le_of_ble_eq_true rfl, Nat.le_of_ble_eq_true rfl⟩) hS (fun q _ h => hFc q h) hFc (fun u t H1 locs ht hvm hw hB hz1 hk1 hS => ?_)
  obtain ⟨sv, tv, bv, cv, f, g, ov, tf, ol, cf, cl, zn, xl, tag, L, kd, pi, bd, af, bo, q_111, go, gq, ⟨hf_114, ⟨hG, hJ⟩, hX0, hX1, hX2, hX3, hX4, hX5, hX6, hX7, hX8, hX9⟩, hP1, hK1, hD1⟩ := hB
  have hE := bd_at rfl hE
  have hE := bd_at hX0 hE
  have hE := bd_at hX1 hE
  have hE := bd_at hX2 hE
  have hE := bd_at hX3 hE
  have hE := bd_at hX4 hE
  have hE := bd_at hX5 hE
  have hE := bd_at hX6 hE
  have hE := bd_at hX7 hE
  have hE := bd_at hX8 hE
  have hE := bd_at hX9 hE
  rw [ht] at hP1
  rw [ht] at hf_114
  obtain ⟨hP, hD⟩ := va_joinP (wr := []) (rx := [(r0, rdC ov (va_rf ol) r1 r2 r3 r4 r5), (r1, chC cf cl zn 0), (r2, chC cf cl zn 1), (r3, chC cf cl zn 2), (r4, chC cf cl zn 3), (r5, tlC cI tf), (h0, snC n0 k0 g0 sv h1 h2 h7), (h1, tmC tv), (h2, boC h3 h5 bv), (h3, mkC h4), (h4, .inl (cJ, 4, .inr (.inl f))), (h5, mkC h6), (h6, .inl (cJ, 4, .inr (.inl g))), (h7, cuC cv)]) (pl1 := va_pl L (pf cJ kd pi bd af bo)) hP hD [0, 1, 2, 3, 4, 5, 6, 7, 9, 10, 11, 12, 13, 8] [] rfl rfl (by decide) (by decide) hk1 hFc hP1 hD1
  generalize H1 = H at hP hS hf_114 ⊢
  have hP : va_P D vwCl ([(r0, rdC ov (va_rf ol) r1 r2 r3 r4 r5), (r1, chC cf cl zn 0), (r2, chC cf cl zn 1), (r3, chC cf cl zn 2), (r4, chC cf cl zn 3), (r5, tlC cI tf), (h0, snC n0 k0 g0 sv h1 h2 h7), (h1, tmC tv), (h2, boC h3 h5 bv), (h3, mkC h4), (h4, .inl (cJ, 4, .inr (.inl f))), (h5, mkC h6), (h6, .inl (cJ, 4, .inr (.inl g))), (h7, cuC cv)] ++ va_pl L (pf cJ kd pi bd af bo)) H := hP
  have hD : va_D A ([(r0, rdC ov (va_rf ol) r1 r2 r3 r4 r5), (r1, chC cf cl zn 0), (r2, chC cf cl zn 1), (r3, chC cf cl zn 2), (r4, chC cf cl zn 3), (r5, tlC cI tf), (h0, snC n0 k0 g0 sv h1 h2 h7), (h1, tmC tv), (h2, boC h3 h5 bv), (h3, mkC h4), (h4, .inl (cJ, 4, .inr (.inl f))), (h5, mkC h6), (h6, .inl (cJ, 4, .inr (.inl g))), (h7, cuC cv)] ++ va_pl L (pf cJ kd pi bd af bo)) := hD
  refine W.widen (k := 2) (n := 11) (Nat.le_of_ble_eq_true rfl) (Nat.le_of_ble_eq_true rfl) ?_
  have hR := hf_114.1
  have hPB := hf_114.2.1
  have hZ := hf_114.2.2.1
  have hT := hf_114.2.2.2.1
  have hg0 := gr_trans hle0 hg0 hf_114.2.2.2.2.1
  have hb1 := hf_114.2.2.2.2.2.1
  have hLK := hf_114.2.2.2.2.2.2.1
  have hq0 := (hf_114.2.2.2.2.2.2.2.2.2.2.2 hq0).1
  have hQ := QQ_trans hQ hf_114.2.2.2.2.2.2.2
  refine W.grown hg0 ?_
  refine lv_aload_n hx hb dX8_beginRecovery_52 rfl (lv_at hl 0 rfl) ?_
  refine lv_aload_n hx hb dX8_beginRecovery_53 rfl (lv_at hl 0 rfl) ?_
  refine va_get (D := D) (ci := 8) (v := .int k0) (C := RX8) (T := TX8) (N := 20) hx hb ha inlX8 hown hK hP 6 rfl rfl 1 (by decide) (ha _ kf_X8_49) (fun _ h9 => h9) rfl dX8_beginRecovery_54 ?_
  refine lv_iconst (v := 3) hx hb dX8_beginRecovery_57 (by decide) ?_
  refine lv_icmp_ne (tgt := 68) hx hb dX8_beginRecovery_58 (by decide) (fun c_115 => ?_) (fun c_115 => ?_)
  · have hE := hE.trans (if_neg c_115)
    refine lv_aload_n hx hb dX8_beginRecovery_68 rfl (lv_at hl 0 rfl) ?_
    refine va_get (D := D) (ci := 8) (v := .int (sv 8)) (C := RX8) (T := TX8) (N := 20) hx hb ha inlX8 hown hK hP 6 rfl rfl 8 (by decide) (ha _ kf_X8_19) (fun _ h9 => h9) rfl dX8_beginRecovery_69 ?_
    refine lv_topi (fun x_116 ex_116 => ?_)
    have hE := bd_at ex_116 hE
    refine lv_sipush (v := 3072) hx hb dX8_beginRecovery_72 (by decide) ?_
    refine lv_iadd hx hb dX8_beginRecovery_75 ?_
    refine lv_topi (fun x_117 ex_117 => ?_)
    have hE := bd_at ex_117 hE
    have hPc := hP.sub (ws' := [(h0, snC n0 k0 g0 sv h1 h2 h7), (h1, tmC tv), (h2, boC h3 h5 bv), (h3, mkC h4), (h4, .inl (cJ, 4, .inr (.inl f))), (h5, mkC h6), (h6, .inl (cJ, 4, .inr (.inl g))), (h7, cuC cv)]) [6, 7, 8, 9, 10, 11, 12, 13] rfl
    have hDc := hD.sub (ws' := [(h0, snC n0 k0 g0 sv h1 h2 h7), (h1, tmC tv), (h2, boC h3 h5 bv), (h3, mkC h4), (h4, .inl (cJ, 4, .inr (.inl f))), (h5, mkC h6), (h6, .inl (cJ, 4, .inr (.inl g))), (h7, cuC cv)]) [6, 7, 8, 9, 10, 11, 12, 13] (by decide) rfl
    have hFc := va_free (wc := [(h0, snC n0 k0 g0 sv h1 h2 h7), (h1, tmC tv), (h2, boC h3 h5 bv), (h3, mkC h4), (h4, .inl (cJ, 4, .inr (.inl f))), (h5, mkC h6), (h6, .inl (cJ, 4, .inr (.inl g))), (h7, cuC cv)]) hD hS hA [6, 7, 8, 9, 10, 11, 12, 13] rfl
    refine va_callv (va_runV (As := [.int x_117]) (rest := []) ⟨hx, hb, hml, hown, ha⟩ (s_setCwnd l D cI cJ cZ cO _ h0 h1 h2 h3 h4 h5 h6 h7 n0 k0 g0 sv tv bv cv f g x_117) (cwV 1 ha (gaV kl_X8_219 km_X8_setCwnd ks_X8_setCwnd kz_X8 kd_X8_setCwnd) rfl rfl rfl (by decide +kernel) ⟨Nat.le_of_ble_eq_true rfl, Nat.le_of_ble_eq_true rfl⟩) ⟨pw_blind, va_recv hK hPc (ci := 8) (q0 := 0) rfl rfl, fun U hU hW => ⟨rfl, pw_start hU hW hPc hK hDc hN⟩⟩ rfl rfl hl.1 rfl (lv_room (Nat.le_of_ble_eq_true rfl)) dX8_beginRecovery_76 ⟨show 2 * (0 + q_111) + 0 ≤ 2 by omega, show 11 * (0 + q_111) + 0 ≤ 11 by omega⟩) hS (fun q _ h => hFc q h) hFc (fun u t H1 locs ht hvm hw hB hz1 hk1 hS => ?_)
    obtain ⟨sv, tv, bv, cv, f, g, ⟨hX0, hX1, hX2, hX3, hX4, hX5⟩, hP1, hK1, hD1⟩ := hB
    have hE := bd_at rfl hE
    have hE := bd_at hX0 hE
    have hE := bd_at hX1 hE
    have hE := bd_at hX2 hE
    have hE := bd_at hX3 hE
    have hE := bd_at hX4 hE
    have hE := bd_at hX5 hE
    rw [ht] at hP1
    obtain ⟨hP, hD⟩ := va_joinQ (wr := [(r0, rdC ov (va_rf ol) r1 r2 r3 r4 r5), (r1, chC cf cl zn 0), (r2, chC cf cl zn 1), (r3, chC cf cl zn 2), (r4, chC cf cl zn 3), (r5, tlC cI tf)]) (w1 := [(h0, snC n0 k0 g0 sv h1 h2 h7), (h1, tmC tv), (h2, boC h3 h5 bv), (h3, mkC h4), (h4, .inl (cJ, 4, .inr (.inl f))), (h5, mkC h6), (h6, .inl (cJ, 4, .inr (.inl g))), (h7, cuC cv)]) hP hD [6, 7, 8, 9, 10, 11, 12, 13] [0, 1, 2, 3, 4, 5] rfl rfl (by decide) (by decide) hk1 hFc hP1 hD1
    generalize H1 = H at hP hS ⊢
    have hP : va_P D vwCl ([(r0, rdC ov (va_rf ol) r1 r2 r3 r4 r5), (r1, chC cf cl zn 0), (r2, chC cf cl zn 1), (r3, chC cf cl zn 2), (r4, chC cf cl zn 3), (r5, tlC cI tf), (h0, snC n0 k0 g0 sv h1 h2 h7), (h1, tmC tv), (h2, boC h3 h5 bv), (h3, mkC h4), (h4, .inl (cJ, 4, .inr (.inl f))), (h5, mkC h6), (h6, .inl (cJ, 4, .inr (.inl g))), (h7, cuC cv)] ++ va_pl L (pf cJ kd pi bd af bo)) H := hP
    have hD : va_D A ([(r0, rdC ov (va_rf ol) r1 r2 r3 r4 r5), (r1, chC cf cl zn 0), (r2, chC cf cl zn 1), (r3, chC cf cl zn 2), (r4, chC cf cl zn 3), (r5, tlC cI tf), (h0, snC n0 k0 g0 sv h1 h2 h7), (h1, tmC tv), (h2, boC h3 h5 bv), (h3, mkC h4), (h4, .inl (cJ, 4, .inr (.inl f))), (h5, mkC h6), (h6, .inl (cJ, 4, .inr (.inl g))), (h7, cuC cv)] ++ va_pl L (pf cJ kd pi bd af bo)) := hD
    refine W.widen (k := 2 * (0 + q_111)) (n := 11 * (0 + q_111)) (Nat.le_refl _) (Nat.le_refl _) ?_
    refine W.know2 (fun hk1 hk2 => ?_)
    have hg0 : gr s.heap _ (0 + q_111) := ⟨hk1, hk2⟩
    refine W.widen (k := 2) (n := 11) (by omega) (by omega) ?_
    have hP9 : va_P D vwCl ([(r0, rdC ov (va_rf ol) r1 r2 r3 r4 r5), (r1, chC cf cl zn 0), (r2, chC cf cl zn 1), (r3, chC cf cl zn 2), (r4, chC cf cl zn 3), (r5, tlC cI tf), (h0, snC n0 k0 g0 sv h1 h2 h7), (h1, tmC tv), (h2, boC h3 h5 bv), (h3, mkC h4), (h4, .inl (cJ, 4, .inr (.inl f))), (h5, mkC h6), (h6, .inl (cJ, 4, .inr (.inl g))), (h7, cuC cv)] ++ va_pl L (pf cJ kd pi bd af bo)) _ := hP
    have hD9 : va_D A ([(r0, rdC ov (va_rf ol) r1 r2 r3 r4 r5), (r1, chC cf cl zn 0), (r2, chC cf cl zn 1), (r3, chC cf cl zn 2), (r4, chC cf cl zn 3), (r5, tlC cI tf), (h0, snC n0 k0 g0 sv h1 h2 h7), (h1, tmC tv), (h2, boC h3 h5 bv), (h3, mkC h4), (h4, .inl (cJ, 4, .inr (.inl f))), (h5, mkC h6), (h6, .inl (cJ, 4, .inr (.inl g))), (h7, cuC cv)] ++ va_pl L (pf cJ kd pi bd af bo)) := hD
    exact W.vret hx hb hr (fun t ht hW => ⟨⟨(), rfl, trivial, ⟨sv, tv, bv, cv, f, g, ov, tf, ol, cf, cl, zn, xl, tag, L, kd, pi, bd, af, bo, (0 + q_111), go, gq, ⟨⟨hR, hPB, hZ, hT, by rw [ht]; exact hg0, by omega, hLK, hQ⟩, ⟨hG, hJ⟩, (by rw [← hRES, hE]), (by rw [← hRES, hE]), (by rw [← hRES, hE]), (by rw [← hRES, hE]), (by rw [← hRES, hE]), (by rw [← hRES, hE]), (by rw [← hRES, hE]), (by rw [← hRES, hE]), (by rw [← hRES, hE]), (by rw [← hRES, hE])⟩, by rw [ht]; exact hP9, va_K.moved hW.alike hK, hD9⟩⟩, hS.F ht⟩) hS.2.2 dX8_beginRecovery_79
  · have hE := hE.trans (if_pos c_115)
    refine lv_aload_n hx hb dX8_beginRecovery_61 rfl (lv_at hl 0 rfl) ?_
    refine va_get (D := D) (ci := 8) (v := .int (sv 8)) (C := RX8) (T := TX8) (N := 20) hx hb ha inlX8 hown hK hP 6 rfl rfl 8 (by decide) (ha _ kf_X8_19) (fun _ h9 => h9) rfl dX8_beginRecovery_62 ?_
    refine lv_topi (fun x_126 ex_126 => ?_)
    have hE := bd_at ex_126 hE
    refine lv_goto (tgt := 76) hx hb dX8_beginRecovery_65 (by decide) ?_
    have hPc := hP.sub (ws' := [(h0, snC n0 k0 g0 sv h1 h2 h7), (h1, tmC tv), (h2, boC h3 h5 bv), (h3, mkC h4), (h4, .inl (cJ, 4, .inr (.inl f))), (h5, mkC h6), (h6, .inl (cJ, 4, .inr (.inl g))), (h7, cuC cv)]) [6, 7, 8, 9, 10, 11, 12, 13] rfl
    have hDc := hD.sub (ws' := [(h0, snC n0 k0 g0 sv h1 h2 h7), (h1, tmC tv), (h2, boC h3 h5 bv), (h3, mkC h4), (h4, .inl (cJ, 4, .inr (.inl f))), (h5, mkC h6), (h6, .inl (cJ, 4, .inr (.inl g))), (h7, cuC cv)]) [6, 7, 8, 9, 10, 11, 12, 13] (by decide) rfl
    have hFc := va_free (wc := [(h0, snC n0 k0 g0 sv h1 h2 h7), (h1, tmC tv), (h2, boC h3 h5 bv), (h3, mkC h4), (h4, .inl (cJ, 4, .inr (.inl f))), (h5, mkC h6), (h6, .inl (cJ, 4, .inr (.inl g))), (h7, cuC cv)]) hD hS hA [6, 7, 8, 9, 10, 11, 12, 13] rfl
    refine va_callv (va_runV (As := [.int x_126]) (rest := []) ⟨hx, hb, hml, hown, ha⟩ (s_setCwnd l D cI cJ cZ cO _ h0 h1 h2 h3 h4 h5 h6 h7 n0 k0 g0 sv tv bv cv f g x_126) (cwV 1 ha (gaV kl_X8_219 km_X8_setCwnd ks_X8_setCwnd kz_X8 kd_X8_setCwnd) rfl rfl rfl (by decide +kernel) ⟨Nat.le_of_ble_eq_true rfl, Nat.le_of_ble_eq_true rfl⟩) ⟨pw_blind, va_recv hK hPc (ci := 8) (q0 := 0) rfl rfl, fun U hU hW => ⟨rfl, pw_start hU hW hPc hK hDc hN⟩⟩ rfl rfl hl.1 rfl (lv_room (Nat.le_of_ble_eq_true rfl)) dX8_beginRecovery_76 ⟨show 2 * (0 + q_111) + 0 ≤ 2 by omega, show 11 * (0 + q_111) + 0 ≤ 11 by omega⟩) hS (fun q _ h => hFc q h) hFc (fun u t H1 locs ht hvm hw hB hz1 hk1 hS => ?_)
    obtain ⟨sv, tv, bv, cv, f, g, ⟨hX0, hX1, hX2, hX3, hX4, hX5⟩, hP1, hK1, hD1⟩ := hB
    have hE := bd_at rfl hE
    have hE := bd_at hX0 hE
    have hE := bd_at hX1 hE
    have hE := bd_at hX2 hE
    have hE := bd_at hX3 hE
    have hE := bd_at hX4 hE
    have hE := bd_at hX5 hE
    rw [ht] at hP1
    obtain ⟨hP, hD⟩ := va_joinQ (wr := [(r0, rdC ov (va_rf ol) r1 r2 r3 r4 r5), (r1, chC cf cl zn 0), (r2, chC cf cl zn 1), (r3, chC cf cl zn 2), (r4, chC cf cl zn 3), (r5, tlC cI tf)]) (w1 := [(h0, snC n0 k0 g0 sv h1 h2 h7), (h1, tmC tv), (h2, boC h3 h5 bv), (h3, mkC h4), (h4, .inl (cJ, 4, .inr (.inl f))), (h5, mkC h6), (h6, .inl (cJ, 4, .inr (.inl g))), (h7, cuC cv)]) hP hD [6, 7, 8, 9, 10, 11, 12, 13] [0, 1, 2, 3, 4, 5] rfl rfl (by decide) (by decide) hk1 hFc hP1 hD1
    generalize H1 = H at hP hS ⊢
    have hP : va_P D vwCl ([(r0, rdC ov (va_rf ol) r1 r2 r3 r4 r5), (r1, chC cf cl zn 0), (r2, chC cf cl zn 1), (r3, chC cf cl zn 2), (r4, chC cf cl zn 3), (r5, tlC cI tf), (h0, snC n0 k0 g0 sv h1 h2 h7), (h1, tmC tv), (h2, boC h3 h5 bv), (h3, mkC h4), (h4, .inl (cJ, 4, .inr (.inl f))), (h5, mkC h6), (h6, .inl (cJ, 4, .inr (.inl g))), (h7, cuC cv)] ++ va_pl L (pf cJ kd pi bd af bo)) H := hP
    have hD : va_D A ([(r0, rdC ov (va_rf ol) r1 r2 r3 r4 r5), (r1, chC cf cl zn 0), (r2, chC cf cl zn 1), (r3, chC cf cl zn 2), (r4, chC cf cl zn 3), (r5, tlC cI tf), (h0, snC n0 k0 g0 sv h1 h2 h7), (h1, tmC tv), (h2, boC h3 h5 bv), (h3, mkC h4), (h4, .inl (cJ, 4, .inr (.inl f))), (h5, mkC h6), (h6, .inl (cJ, 4, .inr (.inl g))), (h7, cuC cv)] ++ va_pl L (pf cJ kd pi bd af bo)) := hD
    refine W.widen (k := 2 * (0 + q_111)) (n := 11 * (0 + q_111)) (Nat.le_refl _) (Nat.le_refl _) ?_
    refine W.know2 (fun hk1 hk2 => ?_)
    have hg0 : gr s.heap _ (0 + q_111) := ⟨hk1, hk2⟩
    refine W.widen (k := 2) (n := 11) (by omega) (by omega) ?_
    have hP9 : va_P D vwCl ([(r0, rdC ov (va_rf ol) r1 r2 r3 r4 r5), (r1, chC cf cl zn 0), (r2, chC cf cl zn 1), (r3, chC cf cl zn 2), (r4, chC cf cl zn 3), (r5, tlC cI tf), (h0, snC n0 k0 g0 sv h1 h2 h7), (h1, tmC tv), (h2, boC h3 h5 bv), (h3, mkC h4), (h4, .inl (cJ, 4, .inr (.inl f))), (h5, mkC h6), (h6, .inl (cJ, 4, .inr (.inl g))), (h7, cuC cv)] ++ va_pl L (pf cJ kd pi bd af bo)) _ := hP
    have hD9 : va_D A ([(r0, rdC ov (va_rf ol) r1 r2 r3 r4 r5), (r1, chC cf cl zn 0), (r2, chC cf cl zn 1), (r3, chC cf cl zn 2), (r4, chC cf cl zn 3), (r5, tlC cI tf), (h0, snC n0 k0 g0 sv h1 h2 h7), (h1, tmC tv), (h2, boC h3 h5 bv), (h3, mkC h4), (h4, .inl (cJ, 4, .inr (.inl f))), (h5, mkC h6), (h6, .inl (cJ, 4, .inr (.inl g))), (h7, cuC cv)] ++ va_pl L (pf cJ kd pi bd af bo)) := hD
    exact W.vret hx hb hr (fun t ht hW => ⟨⟨(), rfl, trivial, ⟨sv, tv, bv, cv, f, g, ov, tf, ol, cf, cl, zn, xl, tag, L, kd, pi, bd, af, bo, (0 + q_111), go, gq, ⟨⟨hR, hPB, hZ, hT, by rw [ht]; exact hg0, by omega, hLK, hQ⟩, ⟨hG, hJ⟩, (by rw [← hRES, hE]), (by rw [← hRES, hE]), (by rw [← hRES, hE]), (by rw [← hRES, hE]), (by rw [← hRES, hE]), (by rw [← hRES, hE]), (by rw [← hRES, hE]), (by rw [← hRES, hE]), (by rw [← hRES, hE]), (by rw [← hRES, hE])⟩, by rw [ht]; exact hP9, va_K.moved hW.alike hK, hD9⟩⟩, hS.F ht⟩) hS.2.2 dX8_beginRecovery_79
