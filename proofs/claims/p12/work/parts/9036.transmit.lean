set_option maxRecDepth 100000 in
def xc_transmit (ov : Nat → Int32) (go : Option S4) (gq : List S3) (tf : Nat → Int32) (n0 : Int32) (k0 : Int32) (g0 : Int32) (sv : Nat → Int32) (tv : Nat → Int32) (bv : Nat → Int32) (cv : Nat → Int32) (f : Nat → Int64) (g : Nat → Int64) (n1 : Int32) (n2 : Int32) : (Nat → Int32) × (Nat → Int32) × (Nat → Int32) × (Nat → Int32) × (Nat → Int64) × (Nat → Int64) × (Nat → Int32) × (Nat → Int32) × (Option S4) × (List S3) := bd (sv 5) (fun v1 => (if v1 ≤ n1 then bd (sv 5) (fun v2 => bd (n1 + (1 : Int32)) (fun v3 => bd (if v2 < v3 then v3 else v2) (fun v4 => bd (upd sv 5 v4) (fun sv => bd (xc_tsent tv n1 (0 : Int32) n2) (fun t5 => bd (t5) (fun tv => bd (xc_launch ov go gq tf n0 n1 (0 : Int32) n2) (fun t6 => bd (t6.1) (fun ov => bd (t6.2.1) (fun tf => bd (t6.2.2.1) (fun go => bd (t6.2.2.2) (fun gq => (sv, tv, bv, cv, f, g, ov, tf, go, gq)))))))))))) else bd (sv 15) (fun v7 => bd (v7 + (1 : Int32)) (fun v8 => bd (upd sv 15 v8) (fun sv => bd (xc_put g n1) (fun t9 => bd (t9) (fun g => bd (sv 5) (fun v10 => bd (n1 + (1 : Int32)) (fun v11 => bd (if v10 < v11 then v11 else v10) (fun v12 => bd (upd sv 5 v12) (fun sv => bd (xc_tsent tv n1 (1 : Int32) n2) (fun t13 => bd (t13) (fun tv => bd (xc_launch ov go gq tf n0 n1 (0 : Int32) n2) (fun t14 => bd (t14.1) (fun ov => bd (t14.2.1) (fun tf => bd (t14.2.2.1) (fun go => bd (t14.2.2.2) (fun gq => (sv, tv, bv, cv, f, g, ov, tf, go, gq)))))))))))))))))))
set_option maxHeartbeats 4000000 in
set_option maxRecDepth 100000 in
theorem s_transmit (l : Launch) (D : va_G) (cI cJ cZ cO : ClassId) (Hh : Heap) (r0 r1 r2 r3 r4 r5 : Nat) (ov : Nat → Int32) (ol : Option Nat) (cf cl : Nat → Option Nat) (zn : Nat → Int32) (xl : Nat → List Nat) (tag : Nat → Nat) (L : List Nat) (kd : Nat → Bool) (pi : Nat → Nat → Int32) (bd : Nat → Nat) (af : Nat → Option Nat) (bo : Nat → Nat → Int64) (go : Option S4) (gq : List S3) (gw : List S4) (ga : List A6) (tf : Nat → Int32) (h0 h1 h2 h3 h4 h5 h6 h7 : Nat) (n0 k0 g0 : Int32) (sv tv bv cv : Nat → Int32) (f g : Nat → Int64) (n1 n2 : Int32) (hR : RI L kd af tag cf cl xl ol) (hPB : PB L kd pi bd) (hZ : ZN zn xl) (hG : GG xl pi bd bo ol go gq gw ga) (hJ : JB L kd bd) (hT : 0 ≤ ov 10) (hLK : LK ov) (hq0 : (xl 0).length ≤ 100) : Met l yX8_transmit (wa yX8_transmit cX8_transmit 5 none) ({ frames := 3, cells := 2, slots := 11, locals := 66 }) (va_Pc [.ref h0, .int n1, .ref r0, .int n2] (pw_h D cI cJ cZ cO Hh ([(r0, rdC ov (va_rf ol) r1 r2 r3 r4 r5), (r1, chC cf cl zn 0), (r2, chC cf cl zn 1), (r3, chC cf cl zn 2), (r4, chC cf cl zn 3), (r5, tlC cI tf), (h0, snC n0 k0 g0 sv h1 h2 h7), (h1, tmC tv), (h2, boC h3 h5 bv), (h3, mkC h4), (h4, .inl (cJ, 4, .inr (.inl f))), (h5, mkC h6), (h6, .inl (cJ, 4, .inr (.inl g))), (h7, cuC cv)] ++ va_pl L (pf cJ kd pi bd af bo)))) (va_Qv (fun (_ : Unit) => True) (fun (_ : Unit) (t : State) => ∃ (sv2 tv2 bv2 cv2 : Nat → Int32) (f2 g2 : Nat → Int64) (ov2 tf2 : Nat → Int32) (ol2 : Option Nat) (cf2 cl2 : Nat → Option Nat) (zn2 : Nat → Int32) (xl2 : Nat → List Nat) (tag2 : Nat → Nat) (L2 : List Nat) (kd2 : Nat → Bool) (pi2 : Nat → Nat → Int32) (bd2 : Nat → Nat) (af2 : Nat → Option Nat) (bo2 : Nat → Nat → Int64) (b2 : Nat) (go2 : Option S4) (gq2 : List S3), ((RI L2 kd2 af2 tag2 cf2 cl2 xl2 ol2 ∧ PB L2 kd2 pi2 bd2 ∧ ZN zn2 xl2 ∧ 0 ≤ ov2 10 ∧ gr Hh t.heap b2 ∧ b2 ≤ 1 ∧ LK ov2 ∧ QQ L kd tag xl pi ol L2 kd2 tag2 xl2 pi2 ol2 [] [] b2 0) ∧ (GG xl2 pi2 bd2 bo2 ol2 go2 gq2 gw ga ∧ JB L2 kd2 bd2) ∧ sv2 = (xc_transmit ov go gq tf n0 k0 g0 sv tv bv cv f g n1 n2).1 ∧ tv2 = (xc_transmit ov go gq tf n0 k0 g0 sv tv bv cv f g n1 n2).2.1 ∧ bv2 = (xc_transmit ov go gq tf n0 k0 g0 sv tv bv cv f g n1 n2).2.2.1 ∧ cv2 = (xc_transmit ov go gq tf n0 k0 g0 sv tv bv cv f g n1 n2).2.2.2.1 ∧ f2 = (xc_transmit ov go gq tf n0 k0 g0 sv tv bv cv f g n1 n2).2.2.2.2.1 ∧ g2 = (xc_transmit ov go gq tf n0 k0 g0 sv tv bv cv f g n1 n2).2.2.2.2.2.1 ∧ ov2 = (xc_transmit ov go gq tf n0 k0 g0 sv tv bv cv f g n1 n2).2.2.2.2.2.2.1 ∧ tf2 = (xc_transmit ov go gq tf n0 k0 g0 sv tv bv cv f g n1 n2).2.2.2.2.2.2.2.1 ∧ go2 = (xc_transmit ov go gq tf n0 k0 g0 sv tv bv cv f g n1 n2).2.2.2.2.2.2.2.2.1 ∧ gq2 = (xc_transmit ov go gq tf n0 k0 g0 sv tv bv cv f g n1 n2).2.2.2.2.2.2.2.2.2) ∧ pw_t D cI cJ cZ cO (va_A ([(r0, rdC ov (va_rf ol) r1 r2 r3 r4 r5), (r1, chC cf cl zn 0), (r2, chC cf cl zn 1), (r3, chC cf cl zn 2), (r4, chC cf cl zn 3), (r5, tlC cI tf), (h0, snC n0 k0 g0 sv h1 h2 h7), (h1, tmC tv), (h2, boC h3 h5 bv), (h3, mkC h4), (h4, .inl (cJ, 4, .inr (.inl f))), (h5, mkC h6), (h6, .inl (cJ, 4, .inr (.inl g))), (h7, cuC cv)] ++ va_pl L (pf cJ kd pi bd af bo)) Hh.size) ([(r0, rdC ov2 (va_rf ol2) r1 r2 r3 r4 r5), (r1, chC cf2 cl2 zn2 0), (r2, chC cf2 cl2 zn2 1), (r3, chC cf2 cl2 zn2 2), (r4, chC cf2 cl2 zn2 3), (r5, tlC cI tf2), (h0, snC n0 k0 g0 sv2 h1 h2 h7), (h1, tmC tv2), (h2, boC h3 h5 bv2), (h3, mkC h4), (h4, .inl (cJ, 4, .inr (.inl f2))), (h5, mkC h6), (h6, .inl (cJ, 4, .inr (.inl g2))), (h7, cuC cv2)] ++ va_pl L2 (pf cJ kd2 pi2 bd2 af2 bo2)) t) (va_A ([(r0, rdC ov (va_rf ol) r1 r2 r3 r4 r5), (r1, chC cf cl zn 0), (r2, chC cf cl zn 1), (r3, chC cf cl zn 2), (r4, chC cf cl zn 3), (r5, tlC cI tf), (h0, snC n0 k0 g0 sv h1 h2 h7), (h1, tmC tv), (h2, boC h3 h5 bv), (h3, mkC h4), (h4, .inl (cJ, 4, .inr (.inl f))), (h5, mkC h6), (h6, .inl (cJ, 4, .inr (.inl g))), (h7, cuC cv)] ++ va_pl L (pf cJ kd pi bd af bo)) Hh.size)) 2 11 (va_A ([(r0, rdC ov (va_rf ol) r1 r2 r3 r4 r5), (r1, chC cf cl zn 0), (r2, chC cf cl zn 1), (r3, chC cf cl zn 2), (r4, chC cf cl zn 3), (r5, tlC cI tf), (h0, snC n0 k0 g0 sv h1 h2 h7), (h1, tmC tv), (h2, boC h3 h5 bv), (h3, mkC h4), (h4, .inl (cJ, 4, .inr (.inl f))), (h5, mkC h6), (h6, .inl (cJ, 4, .inr (.inl g))), (h7, cuC cv)] ++ va_pl L (pf cJ kd pi bd af bo)) Hh.size) := by
  refine Met.ofW (cc := cX8_transmit) (maxL := 5) (ret := none) (by decide) rfl ?_
  intro p e s m args below meth c s₁ B hml hv
  obtain ⟨rfl, hsz, hP, hK, hD0, hN⟩ := hv
  have hx := B.exec
  have hb := B.bytes
  have hr := B.returns
  have hts := atoms_spec (ws := (wa yX8_transmit cX8_transmit 5 none)) B.pre
  have ha : ∀ w ∈ wsL_law, w.before _ s = true := fun w h => hts w (List.mem_cons_of_mem _ h)
  have hown : s.vm.findClass RX8 = some m.cls := findClass_of_methodNamed B.named
  have hlocks := B.notSynchronized
  subst hsz
  have hD := hD0.self (sz := s.heap.size)
  generalize hAe : va_A ([(r0, rdC ov (va_rf ol) r1 r2 r3 r4 r5), (r1, chC cf cl zn 0), (r2, chC cf cl zn 1), (r3, chC cf cl zn 2), (r4, chC cf cl zn 3), (r5, tlC cI tf), (h0, snC n0 k0 g0 sv h1 h2 h7), (h1, tmC tv), (h2, boC h3 h5 bv), (h3, mkC h4), (h4, .inl (cJ, 4, .inr (.inl f))), (h5, mkC h6), (h6, .inl (cJ, 4, .inr (.inl g))), (h7, cuC cv)] ++ va_pl L (pf cJ kd pi bd af bo)) s.heap.size = A at hD ⊢
  have hA : ∀ q : Nat, s.heap.size ≤ q → A q := fun q h => by rw [← hAe]; exact Or.inr h
  have hS : va_S A s.heap s.heap [] := va_S.rf
  have hP : va_P D vwCl ([(r0, rdC ov (va_rf ol) r1 r2 r3 r4 r5), (r1, chC cf cl zn 0), (r2, chC cf cl zn 1), (r3, chC cf cl zn 2), (r4, chC cf cl zn 3), (r5, tlC cI tf), (h0, snC n0 k0 g0 sv h1 h2 h7), (h1, tmC tv), (h2, boC h3 h5 bv), (h3, mkC h4), (h4, .inl (cJ, 4, .inr (.inl f))), (h5, mkC h6), (h6, .inl (cJ, 4, .inr (.inl g))), (h7, cuC cv)] ++ va_pl L (pf cJ kd pi bd af bo)) s.heap := hP
  have hl := lv_entry ([.ref h0, .int n1, .ref r0, .int n2]) (n := 5) (Nat.le_of_ble_eq_true rfl)
  rw [lg_entry_eq]
  generalize (lg_sl ([.ref h0, .int n1, .ref r0, .int n2]) ++ List.replicate (5 - (lg_sl ([.ref h0, .int n1, .ref r0, .int n2])).length) Slot.unset).toArray = ls at hl ⊢
  have hl : lv_has ls 5 [(0, .ref h0), (1, .int n1), (2, .ref r0), (3, .int n2)] := hl
  obtain ⟨QP, hQP⟩ : ∃ y : State → Prop, y = (MQ below (va_Qv (fun (_ : Unit) => True) (fun (_ : Unit) (t : State) => ∃ (sv2 tv2 bv2 cv2 : Nat → Int32) (f2 g2 : Nat → Int64) (ov2 tf2 : Nat → Int32) (ol2 : Option Nat) (cf2 cl2 : Nat → Option Nat) (zn2 : Nat → Int32) (xl2 : Nat → List Nat) (tag2 : Nat → Nat) (L2 : List Nat) (kd2 : Nat → Bool) (pi2 : Nat → Nat → Int32) (bd2 : Nat → Nat) (af2 : Nat → Option Nat) (bo2 : Nat → Nat → Int64) (b2 : Nat) (go2 : Option S4) (gq2 : List S3), ((RI L2 kd2 af2 tag2 cf2 cl2 xl2 ol2 ∧ PB L2 kd2 pi2 bd2 ∧ ZN zn2 xl2 ∧ 0 ≤ ov2 10 ∧ gr s.heap t.heap b2 ∧ b2 ≤ 1 ∧ LK ov2 ∧ QQ L kd tag xl pi ol L2 kd2 tag2 xl2 pi2 ol2 [] [] b2 0) ∧ (GG xl2 pi2 bd2 bo2 ol2 go2 gq2 gw ga ∧ JB L2 kd2 bd2) ∧ sv2 = (xc_transmit ov go gq tf n0 k0 g0 sv tv bv cv f g n1 n2).1 ∧ tv2 = (xc_transmit ov go gq tf n0 k0 g0 sv tv bv cv f g n1 n2).2.1 ∧ bv2 = (xc_transmit ov go gq tf n0 k0 g0 sv tv bv cv f g n1 n2).2.2.1 ∧ cv2 = (xc_transmit ov go gq tf n0 k0 g0 sv tv bv cv f g n1 n2).2.2.2.1 ∧ f2 = (xc_transmit ov go gq tf n0 k0 g0 sv tv bv cv f g n1 n2).2.2.2.2.1 ∧ g2 = (xc_transmit ov go gq tf n0 k0 g0 sv tv bv cv f g n1 n2).2.2.2.2.2.1 ∧ ov2 = (xc_transmit ov go gq tf n0 k0 g0 sv tv bv cv f g n1 n2).2.2.2.2.2.2.1 ∧ tf2 = (xc_transmit ov go gq tf n0 k0 g0 sv tv bv cv f g n1 n2).2.2.2.2.2.2.2.1 ∧ go2 = (xc_transmit ov go gq tf n0 k0 g0 sv tv bv cv f g n1 n2).2.2.2.2.2.2.2.2.1 ∧ gq2 = (xc_transmit ov go gq tf n0 k0 g0 sv tv bv cv f g n1 n2).2.2.2.2.2.2.2.2.2) ∧ pw_t D cI cJ cZ cO A ([(r0, rdC ov2 (va_rf ol2) r1 r2 r3 r4 r5), (r1, chC cf2 cl2 zn2 0), (r2, chC cf2 cl2 zn2 1), (r3, chC cf2 cl2 zn2 2), (r4, chC cf2 cl2 zn2 3), (r5, tlC cI tf2), (h0, snC n0 k0 g0 sv2 h1 h2 h7), (h1, tmC tv2), (h2, boC h3 h5 bv2), (h3, mkC h4), (h4, .inl (cJ, 4, .inr (.inl f2))), (h5, mkC h6), (h6, .inl (cJ, 4, .inr (.inl g2))), (h7, cuC cv2)] ++ va_pl L2 (pf cJ kd2 pi2 bd2 af2 bo2)) t) A) #[(.ref h0 : Value), (.int n1 : Value), (.ref r0 : Value), (.int n2 : Value)] s 2 11 A) := ⟨_, rfl⟩
  obtain ⟨RES, hRES⟩ : ∃ y, y = (xc_transmit ov go gq tf n0 k0 g0 sv tv bv cv f g n1 n2) := ⟨_, rfl⟩
  have hQ : QQ L kd tag xl pi ol L kd tag xl pi ol [] [] 0 0 := QQ_rf
  -- from the entry
  have hE := hRES
  unfold xc_transmit at hE
  refine lv_iload_n hx hb dX8_transmit_0 rfl (lv_at hl 1 rfl) ?_
  refine lv_aload_n hx hb dX8_transmit_1 rfl (lv_at hl 0 rfl) ?_
  refine va_get (D := D) (ci := 8) (v := .int (sv 5)) (C := RX8) (T := TX8) (N := 20) hx hb ha inlX8 hown hK hP 6 rfl rfl 5 (by decide) (ha _ kf_X8_79) (fun _ h9 => h9) rfl dX8_transmit_2 ?_
  refine lv_topi (fun x_63 ex_63 => ?_)
  have hE := bd_at ex_63 hE
  refine lv_icmp_ge (tgt := 12) hx hb dX8_transmit_5 (by decide) (fun c_64 => ?_) (fun c_64 => ?_)
  · have hE := hE.trans (if_pos c_64)
    refine lv_iconst (v := 0) hx hb dX8_transmit_12 (by decide) ?_
    refine lv_istore (lv' := [(4, .int 0), (0, .ref h0), (1, .int n1), (2, .ref r0), (3, .int n2)]) hx hb dX8_transmit_13 hl (by decide) rfl (fun ls hl => ?_)
    refine lv_iload hx hb dX8_transmit_15 (lv_at hl 0 rfl) ?_
    refine lv_if_eq (tgt := 41) hx hb dX8_transmit_17 (by decide) (fun c_65 => ?_) (fun c_65 => ?_)
    rotate_left
    · exact absurd (by decide) c_65
    refine lv_aload_n hx hb dX8_transmit_41 rfl (lv_at hl 1 rfl) ?_
    refine lv_aload_n hx hb dX8_transmit_42 rfl (lv_at hl 1 rfl) ?_
    refine va_get (D := D) (ci := 8) (v := .int (sv 5)) (C := RX8) (T := TX8) (N := 20) hx hb ha inlX8 hown hK hP 6 rfl rfl 5 (by decide) (ha _ kf_X8_79) (fun _ h9 => h9) rfl dX8_transmit_43 ?_
    refine lv_topi (fun x_66 ex_66 => ?_)
    have hE := bd_at ex_66 hE
    refine lv_iload_n hx hb dX8_transmit_46 rfl (lv_at hl 2 rfl) ?_
    refine lv_iconst (v := 1) hx hb dX8_transmit_47 (by decide) ?_
    refine lv_iadd hx hb dX8_transmit_48 ?_
    refine lv_topi (fun x_67 ex_67 => ?_)
    have hE := bd_at ex_67 hE
    refine va_mmax hx hb (hml.trans hl.1.symm) hown (ha _ kl_X8_191) (ha _ kt_max) (ha _ kz_J9) (ha _ kd_max) (Nat.le_of_ble_eq_true rfl) (Nat.le_of_ble_eq_true rfl) (Nat.le_of_ble_eq_true rfl) (Nat.le_of_ble_eq_true rfl) dX8_transmit_49 ?_
    refine lv_topi (fun x_68 ex_68 => ?_)
    have hE := bd_at ex_68 hE
    refine va_put (D := D) (ci := 8) (v := .int x_68) (ty := .int) (C := RX8) (T := TX8) (N := 20) hx hb ha inlX8 tyX8 tyX8_ok nmX8 hown hK hP hD hS 6 rfl rfl 5 (by decide) (ha _ kf_X8_79) (fun _ h9 => h9) rfl (by decide +kernel) rfl rfl (Nat.le_of_ble_eq_true rfl) dX8_transmit_52 (fun H locs hP hD hS => ?_)
    have hP : va_P D vwCl ([(r0, rdC ov (va_rf ol) r1 r2 r3 r4 r5), (r1, chC cf cl zn 0), (r2, chC cf cl zn 1), (r3, chC cf cl zn 2), (r4, chC cf cl zn 3), (r5, tlC cI tf), (h0, snC n0 k0 g0 (upd sv 5 x_68) h1 h2 h7), (h1, tmC tv), (h2, boC h3 h5 bv), (h3, mkC h4), (h4, .inl (cJ, 4, .inr (.inl f))), (h5, mkC h6), (h6, .inl (cJ, 4, .inr (.inl g))), (h7, cuC cv)] ++ va_pl L (pf cJ kd pi bd af bo)) H := hP
    have hD : va_D A ([(r0, rdC ov (va_rf ol) r1 r2 r3 r4 r5), (r1, chC cf cl zn 0), (r2, chC cf cl zn 1), (r3, chC cf cl zn 2), (r4, chC cf cl zn 3), (r5, tlC cI tf), (h0, snC n0 k0 g0 (upd sv 5 x_68) h1 h2 h7), (h1, tmC tv), (h2, boC h3 h5 bv), (h3, mkC h4), (h4, .inl (cJ, 4, .inr (.inl f))), (h5, mkC h6), (h6, .inl (cJ, 4, .inr (.inl g))), (h7, cuC cv)] ++ va_pl L (pf cJ kd pi bd af bo)) := hD
    generalize hg_69 : upd sv 5 x_68 = sv at hP hD
    have hE := bs_at hg_69 hE
    refine lv_aload_n hx hb dX8_transmit_55 rfl (lv_at hl 1 rfl) ?_
    refine va_get (D := D) (ci := 8) (v := .ref h1) (C := RX8) (T := TX8) (N := 20) hx hb ha inlX8 hown hK hP 6 rfl rfl 17 (by decide) (ha _ kf_X8_28) (fun _ h9 => h9) rfl dX8_transmit_56 ?_
    refine lv_iload_n hx hb dX8_transmit_59 rfl (lv_at hl 2 rfl) ?_
    refine lv_iload hx hb dX8_transmit_60 (lv_at hl 0 rfl) ?_
    refine lv_iload_n hx hb dX8_transmit_62 rfl (lv_at hl 4 rfl) ?_
    have hPc := hP.sub (ws' := [(h1, tmC tv)]) [7] rfl
    have hDc := hD.sub (ws' := [(h1, tmC tv)]) [7] (by decide) rfl
    have hFc := va_free (wc := [(h1, tmC tv)]) hD hS hA [7] rfl
    refine va_callv (va_runV (As := [.int n1, .int 0, .int n2]) (rest := []) ⟨hx, hb, hml, hown, ha⟩ (s_tsent l D cI cJ cZ cO _ h1 tv n1 0 n2) (cwV 3 ha (gaV kl_X8_196 km_X9_noteSent ks_X9_noteSent kz_X9 kd_X9_noteSent) rfl rfl rfl (by decide +kernel) ⟨Nat.le_of_ble_eq_true rfl, Nat.le_of_ble_eq_true rfl⟩) ⟨pw_blind, va_recv hK hPc (ci := 9) (q0 := 0) rfl rfl, fun U hU hW => ⟨rfl, pw_start hU hW hPc hK hDc hN⟩⟩ rfl rfl hl.1 rfl (lv_room (Nat.le_of_ble_eq_true rfl)) dX8_transmit_63 ⟨Nat.le_of_ble_eq_true rfl, Nat.le_of_ble_eq_true rfl⟩) hS (fun q _ h => hFc q h) hFc (fun u t H1 locs ht hvm hw hB hz1 hk1 hS => ?_)
    obtain ⟨tv, hX0, hP1, hK1, hD1⟩ := hB
    have hE := bd_at rfl hE
    have hE := bd_at hX0 hE
    rw [ht] at hP1
    obtain ⟨hP, hD⟩ := va_joinQ (wr := [(r0, rdC ov (va_rf ol) r1 r2 r3 r4 r5), (r1, chC cf cl zn 0), (r2, chC cf cl zn 1), (r3, chC cf cl zn 2), (r4, chC cf cl zn 3), (r5, tlC cI tf), (h0, snC n0 k0 g0 sv h1 h2 h7), (h2, boC h3 h5 bv), (h3, mkC h4), (h4, .inl (cJ, 4, .inr (.inl f))), (h5, mkC h6), (h6, .inl (cJ, 4, .inr (.inl g))), (h7, cuC cv)]) (w1 := [(h1, tmC tv)]) hP hD [7] [0, 1, 2, 3, 4, 5, 6, 8, 9, 10, 11, 12, 13] rfl rfl (by decide) (by decide) hk1 hFc hP1 hD1
    generalize H1 = H at hP hS ⊢
    have hP : va_P D vwCl ([(r0, rdC ov (va_rf ol) r1 r2 r3 r4 r5), (r1, chC cf cl zn 0), (r2, chC cf cl zn 1), (r3, chC cf cl zn 2), (r4, chC cf cl zn 3), (r5, tlC cI tf), (h0, snC n0 k0 g0 sv h1 h2 h7), (h2, boC h3 h5 bv), (h3, mkC h4), (h4, .inl (cJ, 4, .inr (.inl f))), (h5, mkC h6), (h6, .inl (cJ, 4, .inr (.inl g))), (h7, cuC cv), (h1, tmC tv)] ++ va_pl L (pf cJ kd pi bd af bo)) H := hP
    have hD : va_D A ([(r0, rdC ov (va_rf ol) r1 r2 r3 r4 r5), (r1, chC cf cl zn 0), (r2, chC cf cl zn 1), (r3, chC cf cl zn 2), (r4, chC cf cl zn 3), (r5, tlC cI tf), (h0, snC n0 k0 g0 sv h1 h2 h7), (h2, boC h3 h5 bv), (h3, mkC h4), (h4, .inl (cJ, 4, .inr (.inl f))), (h5, mkC h6), (h6, .inl (cJ, 4, .inr (.inl g))), (h7, cuC cv), (h1, tmC tv)] ++ va_pl L (pf cJ kd pi bd af bo)) := hD
    refine W.widen (k := 0) (n := 0) (Nat.le_of_ble_eq_true rfl) (Nat.le_of_ble_eq_true rfl) ?_
    refine lv_aload_n hx hb dX8_transmit_66 rfl (lv_at hl 3 rfl) ?_
    refine lv_aload_n hx hb dX8_transmit_67 rfl (lv_at hl 1 rfl) ?_
    refine va_get (D := D) (ci := 8) (v := .int n0) (C := RX8) (T := TX8) (N := 20) hx hb ha inlX8 hown hK hP 6 rfl rfl 0 (by decide) (ha _ kf_X8_46) (fun _ h9 => h9) rfl dX8_transmit_68 ?_
    refine lv_iload_n hx hb dX8_transmit_71 rfl (lv_at hl 2 rfl) ?_
    refine lv_iconst (v := 0) hx hb dX8_transmit_72 (by decide) ?_
    refine lv_iload_n hx hb dX8_transmit_73 rfl (lv_at hl 4 rfl) ?_
    have hPc := hP.part (X := [(r0, rdC ov (va_rf ol) r1 r2 r3 r4 r5), (r1, chC cf cl zn 0), (r2, chC cf cl zn 1), (r3, chC cf cl zn 2), (r4, chC cf cl zn 3), (r5, tlC cI tf), (h0, snC n0 k0 g0 sv h1 h2 h7), (h2, boC h3 h5 bv), (h3, mkC h4), (h4, .inl (cJ, 4, .inr (.inl f))), (h5, mkC h6), (h6, .inl (cJ, 4, .inr (.inl g))), (h7, cuC cv), (h1, tmC tv)]) (cx := [(r0, rdC ov (va_rf ol) r1 r2 r3 r4 r5), (r1, chC cf cl zn 0), (r2, chC cf cl zn 1), (r3, chC cf cl zn 2), (r4, chC cf cl zn 3), (r5, tlC cI tf)]) (pl := va_pl L (pf cJ kd pi bd af bo)) [0, 1, 2, 3, 4, 5] rfl
    have hDc := hD.part (X := [(r0, rdC ov (va_rf ol) r1 r2 r3 r4 r5), (r1, chC cf cl zn 0), (r2, chC cf cl zn 1), (r3, chC cf cl zn 2), (r4, chC cf cl zn 3), (r5, tlC cI tf), (h0, snC n0 k0 g0 sv h1 h2 h7), (h2, boC h3 h5 bv), (h3, mkC h4), (h4, .inl (cJ, 4, .inr (.inl f))), (h5, mkC h6), (h6, .inl (cJ, 4, .inr (.inl g))), (h7, cuC cv), (h1, tmC tv)]) (cx := [(r0, rdC ov (va_rf ol) r1 r2 r3 r4 r5), (r1, chC cf cl zn 0), (r2, chC cf cl zn 1), (r3, chC cf cl zn 2), (r4, chC cf cl zn 3), (r5, tlC cI tf)]) (pl := va_pl L (pf cJ kd pi bd af bo)) [0, 1, 2, 3, 4, 5] (by decide) rfl
    have hFc := va_freeP (X := [(r0, rdC ov (va_rf ol) r1 r2 r3 r4 r5), (r1, chC cf cl zn 0), (r2, chC cf cl zn 1), (r3, chC cf cl zn 2), (r4, chC cf cl zn 3), (r5, tlC cI tf), (h0, snC n0 k0 g0 sv h1 h2 h7), (h2, boC h3 h5 bv), (h3, mkC h4), (h4, .inl (cJ, 4, .inr (.inl f))), (h5, mkC h6), (h6, .inl (cJ, 4, .inr (.inl g))), (h7, cuC cv), (h1, tmC tv)]) (cx := [(r0, rdC ov (va_rf ol) r1 r2 r3 r4 r5), (r1, chC cf cl zn 0), (r2, chC cf cl zn 1), (r3, chC cf cl zn 2), (r4, chC cf cl zn 3), (r5, tlC cI tf)]) (pl := va_pl L (pf cJ kd pi bd af bo)) hD hS hA [0, 1, 2, 3, 4, 5] rfl
    refine W.know2 (fun hka hkb => ?_)
    have hg0 : gr s.heap _ 0 := ⟨hka, hkb⟩
    have hle0 := hS.1
    refine va_callv (va_runV (As := [.int n0, .int n1, .int 0, .int n2]) (rest := []) ⟨hx, hb, hml, hown, ha⟩ (s_launch l D cI cJ cZ cO _ r0 r1 r2 r3 r4 r5 ov ol cf cl zn xl tag L kd pi bd af bo go gq gw ga tf n0 n1 0 n2 (by decide) hR hPB hZ hG hJ hT hLK hq0) (cwV 4 ha (gaV kl_X8_200 km_X7_launch ks_X7_launch kz_X7 kd_X7_launch) rfl rfl rfl (by decide +kernel) ⟨Nat.le_of_ble_eq_true rfl, Nat.le_of_ble_eq_true rfl⟩) ⟨pw_blindh, va_recv hK hPc (ci := 7) (q0 := 0) rfl rfl, fun U hU hW => ⟨rfl, pw_starth hU hW hPc hK hDc hN⟩⟩ rfl rfl hl.1 rfl (lv_room (Nat.le_of_ble_eq_true rfl)) dX8_transmit_74 ⟨Nat.le_of_ble_eq_true rfl, Nat.le_of_ble_eq_true rfl⟩) hS (fun q _ h => hFc q h) hFc (fun u t H1 locs ht hvm hw hB hz1 hk1 hS => ?_)
    obtain ⟨ov, tf, ol, cf, cl, zn, xl, tag, L, kd, pi, bd, af, bo, q_88, go, gq, ⟨hf_91, ⟨hG, hJ⟩, hX0, hX1, hX2, hX3⟩, hP1, hK1, hD1⟩ := hB
    have hE := bd_at rfl hE
    have hE := bd_at hX0 hE
    have hE := bd_at hX1 hE
    have hE := bd_at hX2 hE
    have hE := bd_at hX3 hE
    rw [ht] at hP1
    rw [ht] at hf_91
    obtain ⟨hP, hD⟩ := va_joinP (wr := [(h0, snC n0 k0 g0 sv h1 h2 h7), (h2, boC h3 h5 bv), (h3, mkC h4), (h4, .inl (cJ, 4, .inr (.inl f))), (h5, mkC h6), (h6, .inl (cJ, 4, .inr (.inl g))), (h7, cuC cv), (h1, tmC tv)]) (rx := [(r0, rdC ov (va_rf ol) r1 r2 r3 r4 r5), (r1, chC cf cl zn 0), (r2, chC cf cl zn 1), (r3, chC cf cl zn 2), (r4, chC cf cl zn 3), (r5, tlC cI tf)]) (pl1 := va_pl L (pf cJ kd pi bd af bo)) hP hD [0, 1, 2, 3, 4, 5] [6, 7, 8, 9, 10, 11, 12, 13] rfl rfl (by decide) (by decide) hk1 hFc hP1 hD1
    generalize H1 = H at hP hS hf_91 ⊢
    have hP : va_P D vwCl ([(h0, snC n0 k0 g0 sv h1 h2 h7), (h2, boC h3 h5 bv), (h3, mkC h4), (h4, .inl (cJ, 4, .inr (.inl f))), (h5, mkC h6), (h6, .inl (cJ, 4, .inr (.inl g))), (h7, cuC cv), (h1, tmC tv), (r0, rdC ov (va_rf ol) r1 r2 r3 r4 r5), (r1, chC cf cl zn 0), (r2, chC cf cl zn 1), (r3, chC cf cl zn 2), (r4, chC cf cl zn 3), (r5, tlC cI tf)] ++ va_pl L (pf cJ kd pi bd af bo)) H := hP
    have hD : va_D A ([(h0, snC n0 k0 g0 sv h1 h2 h7), (h2, boC h3 h5 bv), (h3, mkC h4), (h4, .inl (cJ, 4, .inr (.inl f))), (h5, mkC h6), (h6, .inl (cJ, 4, .inr (.inl g))), (h7, cuC cv), (h1, tmC tv), (r0, rdC ov (va_rf ol) r1 r2 r3 r4 r5), (r1, chC cf cl zn 0), (r2, chC cf cl zn 1), (r3, chC cf cl zn 2), (r4, chC cf cl zn 3), (r5, tlC cI tf)] ++ va_pl L (pf cJ kd pi bd af bo)) := hD
    refine W.widen (k := 2) (n := 11) (Nat.le_of_ble_eq_true rfl) (Nat.le_of_ble_eq_true rfl) ?_
    have hR := hf_91.1
    have hPB := hf_91.2.1
    have hZ := hf_91.2.2.1
    have hT := hf_91.2.2.2.1
    have hg0 := gr_trans hle0 hg0 hf_91.2.2.2.2.1
    have hb1 := hf_91.2.2.2.2.2.1
    have hLK := hf_91.2.2.2.2.2.2.1
    have hq0 := (hf_91.2.2.2.2.2.2.2.2.2.2.2 hq0).1
    have hQ := QQ_trans hQ hf_91.2.2.2.2.2.2.2
    have hP9 : va_P D vwCl ([(r0, rdC ov (va_rf ol) r1 r2 r3 r4 r5), (r1, chC cf cl zn 0), (r2, chC cf cl zn 1), (r3, chC cf cl zn 2), (r4, chC cf cl zn 3), (r5, tlC cI tf), (h0, snC n0 k0 g0 sv h1 h2 h7), (h1, tmC tv), (h2, boC h3 h5 bv), (h3, mkC h4), (h4, .inl (cJ, 4, .inr (.inl f))), (h5, mkC h6), (h6, .inl (cJ, 4, .inr (.inl g))), (h7, cuC cv)] ++ va_pl L (pf cJ kd pi bd af bo)) _ := hP.part [8, 9, 10, 11, 12, 13, 0, 7, 1, 2, 3, 4, 5, 6] rfl
    have hD9 : va_D A ([(r0, rdC ov (va_rf ol) r1 r2 r3 r4 r5), (r1, chC cf cl zn 0), (r2, chC cf cl zn 1), (r3, chC cf cl zn 2), (r4, chC cf cl zn 3), (r5, tlC cI tf), (h0, snC n0 k0 g0 sv h1 h2 h7), (h1, tmC tv), (h2, boC h3 h5 bv), (h3, mkC h4), (h4, .inl (cJ, 4, .inr (.inl f))), (h5, mkC h6), (h6, .inl (cJ, 4, .inr (.inl g))), (h7, cuC cv)] ++ va_pl L (pf cJ kd pi bd af bo)) := hD.part [8, 9, 10, 11, 12, 13, 0, 7, 1, 2, 3, 4, 5, 6] (by decide) rfl
    exact W.vret hx hb hr (fun t ht hW => ⟨⟨(), rfl, trivial, ⟨sv, tv, bv, cv, f, g, ov, tf, ol, cf, cl, zn, xl, tag, L, kd, pi, bd, af, bo, (0 + q_88), go, gq, ⟨⟨hR, hPB, hZ, hT, by rw [ht]; exact hg0, by omega, hLK, hQ⟩, ⟨hG, hJ⟩, (by rw [← hRES, hE]), (by rw [← hRES, hE]), (by rw [← hRES, hE]), (by rw [← hRES, hE]), (by rw [← hRES, hE]), (by rw [← hRES, hE]), (by rw [← hRES, hE]), (by rw [← hRES, hE]), (by rw [← hRES, hE]), (by rw [← hRES, hE])⟩, by rw [ht]; exact hP9, va_K.moved hW.alike hK, hD9⟩⟩, hS.F ht⟩) hS.2.2 dX8_transmit_77
  · have hE := hE.trans (if_neg c_64)
    refine lv_iconst (v := 1) hx hb dX8_transmit_8 (by decide) ?_
    refine lv_goto (tgt := 13) hx hb dX8_transmit_9 (by decide) ?_
    refine lv_istore (lv' := [(4, .int 1), (0, .ref h0), (1, .int n1), (2, .ref r0), (3, .int n2)]) hx hb dX8_transmit_13 hl (by decide) rfl (fun ls hl => ?_)
    refine lv_iload hx hb dX8_transmit_15 (lv_at hl 0 rfl) ?_
    refine lv_if_eq (tgt := 41) hx hb dX8_transmit_17 (by decide) (fun c_92 => ?_) (fun c_92 => ?_)
    · exact absurd c_92 (by decide)
    refine lv_aload_n hx hb dX8_transmit_20 rfl (lv_at hl 1 rfl) ?_
    refine lv_dup hx hb dX8_transmit_21 rfl ?_
    refine va_get (D := D) (ci := 8) (v := .int (sv 15)) (C := RX8) (T := TX8) (N := 20) hx hb ha inlX8 hown hK hP 6 rfl rfl 15 (by decide) (ha _ kf_X8_156) (fun _ h9 => h9) rfl dX8_transmit_22 ?_
    refine lv_topi (fun x_93 ex_93 => ?_)
    have hE := bd_at ex_93 hE
    refine lv_iconst (v := 1) hx hb dX8_transmit_25 (by decide) ?_
    refine lv_iadd hx hb dX8_transmit_26 ?_
    refine lv_topi (fun x_94 ex_94 => ?_)
    have hE := bd_at ex_94 hE
    refine va_put (D := D) (ci := 8) (v := .int x_94) (ty := .int) (C := RX8) (T := TX8) (N := 20) hx hb ha inlX8 tyX8 tyX8_ok nmX8 hown hK hP hD hS 6 rfl rfl 15 (by decide) (ha _ kf_X8_156) (fun _ h9 => h9) rfl (by decide +kernel) rfl rfl (Nat.le_of_ble_eq_true rfl) dX8_transmit_27 (fun H locs hP hD hS => ?_)
    have hP : va_P D vwCl ([(r0, rdC ov (va_rf ol) r1 r2 r3 r4 r5), (r1, chC cf cl zn 0), (r2, chC cf cl zn 1), (r3, chC cf cl zn 2), (r4, chC cf cl zn 3), (r5, tlC cI tf), (h0, snC n0 k0 g0 (upd sv 15 x_94) h1 h2 h7), (h1, tmC tv), (h2, boC h3 h5 bv), (h3, mkC h4), (h4, .inl (cJ, 4, .inr (.inl f))), (h5, mkC h6), (h6, .inl (cJ, 4, .inr (.inl g))), (h7, cuC cv)] ++ va_pl L (pf cJ kd pi bd af bo)) H := hP
    have hD : va_D A ([(r0, rdC ov (va_rf ol) r1 r2 r3 r4 r5), (r1, chC cf cl zn 0), (r2, chC cf cl zn 1), (r3, chC cf cl zn 2), (r4, chC cf cl zn 3), (r5, tlC cI tf), (h0, snC n0 k0 g0 (upd sv 15 x_94) h1 h2 h7), (h1, tmC tv), (h2, boC h3 h5 bv), (h3, mkC h4), (h4, .inl (cJ, 4, .inr (.inl f))), (h5, mkC h6), (h6, .inl (cJ, 4, .inr (.inl g))), (h7, cuC cv)] ++ va_pl L (pf cJ kd pi bd af bo)) := hD
    generalize hg_95 : upd sv 15 x_94 = sv at hP hD
    have hE := bs_at hg_95 hE
    refine lv_aload_n hx hb dX8_transmit_30 rfl (lv_at hl 1 rfl) ?_
    refine va_get (D := D) (ci := 8) (v := .ref h2) (C := RX8) (T := TX8) (N := 20) hx hb ha inlX8 hown hK hP 6 rfl rfl 18 (by decide) (ha _ kf_X8_35) (fun _ h9 => h9) rfl dX8_transmit_31 ?_
    refine va_getN (D := D) (ci := 0) (v := .ref h5) (C := RX0) (T := TX0) (N := 4) hx hb ha inlX0 hown hK hP 8 rfl rfl 1 (by decide) (va_Nw.use rfl (hN.f RX8 182 "CongestionBench$Board" "sentAgain" "LCongestionBench$Marks;" "CongestionBench" (by decide +kernel))) (fun _ h9 => h9) rfl dX8_transmit_34 ?_
    refine lv_iload_n hx hb dX8_transmit_37 rfl (lv_at hl 2 rfl) ?_
    have hPc := hP.sub (ws' := [(h5, mkC h6), (h6, .inl (cJ, 4, .inr (.inl g)))]) [11, 12] rfl
    have hDc := hD.sub (ws' := [(h5, mkC h6), (h6, .inl (cJ, 4, .inr (.inl g)))]) [11, 12] (by decide) rfl
    have hFc := va_free (wc := [(h5, mkC h6), (h6, .inl (cJ, 4, .inr (.inl g)))]) hD hS hA [11, 12] rfl
    refine va_callv (va_runV (As := [.int n1]) (rest := []) ⟨hx, hb, hml, hown, ha⟩ (s_put l D cI cJ cZ cO _ h5 h6 g n1) (cwV 1 ha (gaV kl_X8_186 km_X4_put ks_X4_put kz_X4 kd_X4_put) rfl rfl rfl (by decide +kernel) ⟨Nat.le_of_ble_eq_true rfl, Nat.le_of_ble_eq_true rfl⟩) ⟨pw_blind, va_recv hK hPc (ci := 4) (q0 := 0) rfl rfl, fun U hU hW => ⟨rfl, pw_start hU hW hPc hK hDc hN⟩⟩ rfl rfl hl.1 rfl (lv_room (Nat.le_of_ble_eq_true rfl)) dX8_transmit_38 ⟨Nat.le_of_ble_eq_true rfl, Nat.le_of_ble_eq_true rfl⟩) hS (fun q _ h => hFc q h) hFc (fun u t H1 locs ht hvm hw hB hz1 hk1 hS => ?_)
    obtain ⟨g, hX0, hP1, hK1, hD1⟩ := hB
    have hE := bd_at rfl hE
    have hE := bd_at hX0 hE
    rw [ht] at hP1
    obtain ⟨hP, hD⟩ := va_joinQ (wr := [(r0, rdC ov (va_rf ol) r1 r2 r3 r4 r5), (r1, chC cf cl zn 0), (r2, chC cf cl zn 1), (r3, chC cf cl zn 2), (r4, chC cf cl zn 3), (r5, tlC cI tf), (h0, snC n0 k0 g0 sv h1 h2 h7), (h1, tmC tv), (h2, boC h3 h5 bv), (h3, mkC h4), (h4, .inl (cJ, 4, .inr (.inl f))), (h7, cuC cv)]) (w1 := [(h5, mkC h6), (h6, .inl (cJ, 4, .inr (.inl g)))]) hP hD [11, 12] [0, 1, 2, 3, 4, 5, 6, 7, 8, 9, 10, 13] rfl rfl (by decide) (by decide) hk1 hFc hP1 hD1
    generalize H1 = H at hP hS ⊢
    have hP : va_P D vwCl ([(r0, rdC ov (va_rf ol) r1 r2 r3 r4 r5), (r1, chC cf cl zn 0), (r2, chC cf cl zn 1), (r3, chC cf cl zn 2), (r4, chC cf cl zn 3), (r5, tlC cI tf), (h0, snC n0 k0 g0 sv h1 h2 h7), (h1, tmC tv), (h2, boC h3 h5 bv), (h3, mkC h4), (h4, .inl (cJ, 4, .inr (.inl f))), (h7, cuC cv), (h5, mkC h6), (h6, .inl (cJ, 4, .inr (.inl g)))] ++ va_pl L (pf cJ kd pi bd af bo)) H := hP
    have hD : va_D A ([(r0, rdC ov (va_rf ol) r1 r2 r3 r4 r5), (r1, chC cf cl zn 0), (r2, chC cf cl zn 1), (r3, chC cf cl zn 2), (r4, chC cf cl zn 3), (r5, tlC cI tf), (h0, snC n0 k0 g0 sv h1 h2 h7), (h1, tmC tv), (h2, boC h3 h5 bv), (h3, mkC h4), (h4, .inl (cJ, 4, .inr (.inl f))), (h7, cuC cv), (h5, mkC h6), (h6, .inl (cJ, 4, .inr (.inl g)))] ++ va_pl L (pf cJ kd pi bd af bo)) := hD
    refine W.widen (k := 0) (n := 0) (Nat.le_of_ble_eq_true rfl) (Nat.le_of_ble_eq_true rfl) ?_
    refine lv_aload_n hx hb dX8_transmit_41 rfl (lv_at hl 1 rfl) ?_
    refine lv_aload_n hx hb dX8_transmit_42 rfl (lv_at hl 1 rfl) ?_
    refine va_get (D := D) (ci := 8) (v := .int (sv 5)) (C := RX8) (T := TX8) (N := 20) hx hb ha inlX8 hown hK hP 6 rfl rfl 5 (by decide) (ha _ kf_X8_79) (fun _ h9 => h9) rfl dX8_transmit_43 ?_
    refine lv_topi (fun x_99 ex_99 => ?_)
    have hE := bd_at ex_99 hE
    refine lv_iload_n hx hb dX8_transmit_46 rfl (lv_at hl 2 rfl) ?_
    refine lv_iconst (v := 1) hx hb dX8_transmit_47 (by decide) ?_
    refine lv_iadd hx hb dX8_transmit_48 ?_
    refine lv_topi (fun x_100 ex_100 => ?_)
    have hE := bd_at ex_100 hE
    refine va_mmax hx hb (hml.trans hl.1.symm) hown (ha _ kl_X8_191) (ha _ kt_max) (ha _ kz_J9) (ha _ kd_max) (Nat.le_of_ble_eq_true rfl) (Nat.le_of_ble_eq_true rfl) (Nat.le_of_ble_eq_true rfl) (Nat.le_of_ble_eq_true rfl) dX8_transmit_49 ?_
    refine lv_topi (fun x_101 ex_101 => ?_)
    have hE := bd_at ex_101 hE
    refine va_put (D := D) (ci := 8) (v := .int x_101) (ty := .int) (C := RX8) (T := TX8) (N := 20) hx hb ha inlX8 tyX8 tyX8_ok nmX8 hown hK hP hD hS 6 rfl rfl 5 (by decide) (ha _ kf_X8_79) (fun _ h9 => h9) rfl (by decide +kernel) rfl rfl (Nat.le_of_ble_eq_true rfl) dX8_transmit_52 (fun H locs hP hD hS => ?_)
    have hP : va_P D vwCl ([(r0, rdC ov (va_rf ol) r1 r2 r3 r4 r5), (r1, chC cf cl zn 0), (r2, chC cf cl zn 1), (r3, chC cf cl zn 2), (r4, chC cf cl zn 3), (r5, tlC cI tf), (h0, snC n0 k0 g0 (upd sv 5 x_101) h1 h2 h7), (h1, tmC tv), (h2, boC h3 h5 bv), (h3, mkC h4), (h4, .inl (cJ, 4, .inr (.inl f))), (h7, cuC cv), (h5, mkC h6), (h6, .inl (cJ, 4, .inr (.inl g)))] ++ va_pl L (pf cJ kd pi bd af bo)) H := hP
    have hD : va_D A ([(r0, rdC ov (va_rf ol) r1 r2 r3 r4 r5), (r1, chC cf cl zn 0), (r2, chC cf cl zn 1), (r3, chC cf cl zn 2), (r4, chC cf cl zn 3), (r5, tlC cI tf), (h0, snC n0 k0 g0 (upd sv 5 x_101) h1 h2 h7), (h1, tmC tv), (h2, boC h3 h5 bv), (h3, mkC h4), (h4, .inl (cJ, 4, .inr (.inl f))), (h7, cuC cv), (h5, mkC h6), (h6, .inl (cJ, 4, .inr (.inl g)))] ++ va_pl L (pf cJ kd pi bd af bo)) := hD
    generalize hg_102 : upd sv 5 x_101 = sv at hP hD
    have hE := bs_at hg_102 hE
    refine lv_aload_n hx hb dX8_transmit_55 rfl (lv_at hl 1 rfl) ?_
    refine va_get (D := D) (ci := 8) (v := .ref h1) (C := RX8) (T := TX8) (N := 20) hx hb ha inlX8 hown hK hP 6 rfl rfl 17 (by decide) (ha _ kf_X8_28) (fun _ h9 => h9) rfl dX8_transmit_56 ?_
    refine lv_iload_n hx hb dX8_transmit_59 rfl (lv_at hl 2 rfl) ?_
    refine lv_iload hx hb dX8_transmit_60 (lv_at hl 0 rfl) ?_
    refine lv_iload_n hx hb dX8_transmit_62 rfl (lv_at hl 4 rfl) ?_
    have hPc := hP.sub (ws' := [(h1, tmC tv)]) [7] rfl
    have hDc := hD.sub (ws' := [(h1, tmC tv)]) [7] (by decide) rfl
    have hFc := va_free (wc := [(h1, tmC tv)]) hD hS hA [7] rfl
    refine va_callv (va_runV (As := [.int n1, .int 1, .int n2]) (rest := []) ⟨hx, hb, hml, hown, ha⟩ (s_tsent l D cI cJ cZ cO _ h1 tv n1 1 n2) (cwV 3 ha (gaV kl_X8_196 km_X9_noteSent ks_X9_noteSent kz_X9 kd_X9_noteSent) rfl rfl rfl (by decide +kernel) ⟨Nat.le_of_ble_eq_true rfl, Nat.le_of_ble_eq_true rfl⟩) ⟨pw_blind, va_recv hK hPc (ci := 9) (q0 := 0) rfl rfl, fun U hU hW => ⟨rfl, pw_start hU hW hPc hK hDc hN⟩⟩ rfl rfl hl.1 rfl (lv_room (Nat.le_of_ble_eq_true rfl)) dX8_transmit_63 ⟨Nat.le_of_ble_eq_true rfl, Nat.le_of_ble_eq_true rfl⟩) hS (fun q _ h => hFc q h) hFc (fun u t H1 locs ht hvm hw hB hz1 hk1 hS => ?_)
    obtain ⟨tv, hX0, hP1, hK1, hD1⟩ := hB
    have hE := bd_at rfl hE
    have hE := bd_at hX0 hE
    rw [ht] at hP1
    obtain ⟨hP, hD⟩ := va_joinQ (wr := [(r0, rdC ov (va_rf ol) r1 r2 r3 r4 r5), (r1, chC cf cl zn 0), (r2, chC cf cl zn 1), (r3, chC cf cl zn 2), (r4, chC cf cl zn 3), (r5, tlC cI tf), (h0, snC n0 k0 g0 sv h1 h2 h7), (h2, boC h3 h5 bv), (h3, mkC h4), (h4, .inl (cJ, 4, .inr (.inl f))), (h7, cuC cv), (h5, mkC h6), (h6, .inl (cJ, 4, .inr (.inl g)))]) (w1 := [(h1, tmC tv)]) hP hD [7] [0, 1, 2, 3, 4, 5, 6, 8, 9, 10, 11, 12, 13] rfl rfl (by decide) (by decide) hk1 hFc hP1 hD1
    generalize H1 = H at hP hS ⊢
    have hP : va_P D vwCl ([(r0, rdC ov (va_rf ol) r1 r2 r3 r4 r5), (r1, chC cf cl zn 0), (r2, chC cf cl zn 1), (r3, chC cf cl zn 2), (r4, chC cf cl zn 3), (r5, tlC cI tf), (h0, snC n0 k0 g0 sv h1 h2 h7), (h2, boC h3 h5 bv), (h3, mkC h4), (h4, .inl (cJ, 4, .inr (.inl f))), (h7, cuC cv), (h5, mkC h6), (h6, .inl (cJ, 4, .inr (.inl g))), (h1, tmC tv)] ++ va_pl L (pf cJ kd pi bd af bo)) H := hP
    have hD : va_D A ([(r0, rdC ov (va_rf ol) r1 r2 r3 r4 r5), (r1, chC cf cl zn 0), (r2, chC cf cl zn 1), (r3, chC cf cl zn 2), (r4, chC cf cl zn 3), (r5, tlC cI tf), (h0, snC n0 k0 g0 sv h1 h2 h7), (h2, boC h3 h5 bv), (h3, mkC h4), (h4, .inl (cJ, 4, .inr (.inl f))), (h7, cuC cv), (h5, mkC h6), (h6, .inl (cJ, 4, .inr (.inl g))), (h1, tmC tv)] ++ va_pl L (pf cJ kd pi bd af bo)) := hD
    refine W.widen (k := 0) (n := 0) (Nat.le_of_ble_eq_true rfl) (Nat.le_of_ble_eq_true rfl) ?_
    refine lv_aload_n hx hb dX8_transmit_66 rfl (lv_at hl 3 rfl) ?_
    refine lv_aload_n hx hb dX8_transmit_67 rfl (lv_at hl 1 rfl) ?_
    refine va_get (D := D) (ci := 8) (v := .int n0) (C := RX8) (T := TX8) (N := 20) hx hb ha inlX8 hown hK hP 6 rfl rfl 0 (by decide) (ha _ kf_X8_46) (fun _ h9 => h9) rfl dX8_transmit_68 ?_
    refine lv_iload_n hx hb dX8_transmit_71 rfl (lv_at hl 2 rfl) ?_
    refine lv_iconst (v := 0) hx hb dX8_transmit_72 (by decide) ?_
    refine lv_iload_n hx hb dX8_transmit_73 rfl (lv_at hl 4 rfl) ?_
    have hPc := hP.part (X := [(r0, rdC ov (va_rf ol) r1 r2 r3 r4 r5), (r1, chC cf cl zn 0), (r2, chC cf cl zn 1), (r3, chC cf cl zn 2), (r4, chC cf cl zn 3), (r5, tlC cI tf), (h0, snC n0 k0 g0 sv h1 h2 h7), (h2, boC h3 h5 bv), (h3, mkC h4), (h4, .inl (cJ, 4, .inr (.inl f))), (h7, cuC cv), (h5, mkC h6), (h6, .inl (cJ, 4, .inr (.inl g))), (h1, tmC tv)]) (cx := [(r0, rdC ov (va_rf ol) r1 r2 r3 r4 r5), (r1, chC cf cl zn 0), (r2, chC cf cl zn 1), (r3, chC cf cl zn 2), (r4, chC cf cl zn 3), (r5, tlC cI tf)]) (pl := va_pl L (pf cJ kd pi bd af bo)) [0, 1, 2, 3, 4, 5] rfl
    have hDc := hD.part (X := [(r0, rdC ov (va_rf ol) r1 r2 r3 r4 r5), (r1, chC cf cl zn 0), (r2, chC cf cl zn 1), (r3, chC cf cl zn 2), (r4, chC cf cl zn 3), (r5, tlC cI tf), (h0, snC n0 k0 g0 sv h1 h2 h7), (h2, boC h3 h5 bv), (h3, mkC h4), (h4, .inl (cJ, 4, .inr (.inl f))), (h7, cuC cv), (h5, mkC h6), (h6, .inl (cJ, 4, .inr (.inl g))), (h1, tmC tv)]) (cx := [(r0, rdC ov (va_rf ol) r1 r2 r3 r4 r5), (r1, chC cf cl zn 0), (r2, chC cf cl zn 1), (r3, chC cf cl zn 2), (r4, chC cf cl zn 3), (r5, tlC cI tf)]) (pl := va_pl L (pf cJ kd pi bd af bo)) [0, 1, 2, 3, 4, 5] (by decide) rfl
    have hFc := va_freeP (X := [(r0, rdC ov (va_rf ol) r1 r2 r3 r4 r5), (r1, chC cf cl zn 0), (r2, chC cf cl zn 1), (r3, chC cf cl zn 2), (r4, chC cf cl zn 3), (r5, tlC cI tf), (h0, snC n0 k0 g0 sv h1 h2 h7), (h2, boC h3 h5 bv), (h3, mkC h4), (h4, .inl (cJ, 4, .inr (.inl f))), (h7, cuC cv), (h5, mkC h6), (h6, .inl (cJ, 4, .inr (.inl g))), (h1, tmC tv)]) (cx := [(r0, rdC ov (va_rf ol) r1 r2 r3 r4 r5), (r1, chC cf cl zn 0), (r2, chC cf cl zn 1), (r3, chC cf cl zn 2), (r4, chC cf cl zn 3), (r5, tlC cI tf)]) (pl := va_pl L (pf cJ kd pi bd af bo)) hD hS hA [0, 1, 2, 3, 4, 5] rfl
    refine W.know2 (fun hka hkb => ?_)
    have hg0 : gr s.heap _ 0 := ⟨hka, hkb⟩
    have hle0 := hS.1
    refine va_callv (va_runV (As := [.int n0, .int n1, .int 0, .int n2]) (rest := []) ⟨hx, hb, hml, hown, ha⟩ (s_launch l D cI cJ cZ cO _ r0 r1 r2 r3 r4 r5 ov ol cf cl zn xl tag L kd pi bd af bo go gq gw ga tf n0 n1 0 n2 (by decide) hR hPB hZ hG hJ hT hLK hq0) (cwV 4 ha (gaV kl_X8_200 km_X7_launch ks_X7_launch kz_X7 kd_X7_launch) rfl rfl rfl (by decide +kernel) ⟨Nat.le_of_ble_eq_true rfl, Nat.le_of_ble_eq_true rfl⟩) ⟨pw_blindh, va_recv hK hPc (ci := 7) (q0 := 0) rfl rfl, fun U hU hW => ⟨rfl, pw_starth hU hW hPc hK hDc hN⟩⟩ rfl rfl hl.1 rfl (lv_room (Nat.le_of_ble_eq_true rfl)) dX8_transmit_74 ⟨Nat.le_of_ble_eq_true rfl, Nat.le_of_ble_eq_true rfl⟩) hS (fun q _ h => hFc q h) hFc (fun u t H1 locs ht hvm hw hB hz1 hk1 hS => ?_)
    obtain ⟨ov, tf, ol, cf, cl, zn, xl, tag, L, kd, pi, bd, af, bo, q_121, go, gq, ⟨hf_124, ⟨hG, hJ⟩, hX0, hX1, hX2, hX3⟩, hP1, hK1, hD1⟩ := hB
    have hE := bd_at rfl hE
    have hE := bd_at hX0 hE
    have hE := bd_at hX1 hE
    have hE := bd_at hX2 hE
    have hE := bd_at hX3 hE
    rw [ht] at hP1
    rw [ht] at hf_124
    obtain ⟨hP, hD⟩ := va_joinP (wr := [(h0, snC n0 k0 g0 sv h1 h2 h7), (h2, boC h3 h5 bv), (h3, mkC h4), (h4, .inl (cJ, 4, .inr (.inl f))), (h7, cuC cv), (h5, mkC h6), (h6, .inl (cJ, 4, .inr (.inl g))), (h1, tmC tv)]) (rx := [(r0, rdC ov (va_rf ol) r1 r2 r3 r4 r5), (r1, chC cf cl zn 0), (r2, chC cf cl zn 1), (r3, chC cf cl zn 2), (r4, chC cf cl zn 3), (r5, tlC cI tf)]) (pl1 := va_pl L (pf cJ kd pi bd af bo)) hP hD [0, 1, 2, 3, 4, 5] [6, 7, 8, 9, 10, 11, 12, 13] rfl rfl (by decide) (by decide) hk1 hFc hP1 hD1
    generalize H1 = H at hP hS hf_124 ⊢
    have hP : va_P D vwCl ([(h0, snC n0 k0 g0 sv h1 h2 h7), (h2, boC h3 h5 bv), (h3, mkC h4), (h4, .inl (cJ, 4, .inr (.inl f))), (h7, cuC cv), (h5, mkC h6), (h6, .inl (cJ, 4, .inr (.inl g))), (h1, tmC tv), (r0, rdC ov (va_rf ol) r1 r2 r3 r4 r5), (r1, chC cf cl zn 0), (r2, chC cf cl zn 1), (r3, chC cf cl zn 2), (r4, chC cf cl zn 3), (r5, tlC cI tf)] ++ va_pl L (pf cJ kd pi bd af bo)) H := hP
    have hD : va_D A ([(h0, snC n0 k0 g0 sv h1 h2 h7), (h2, boC h3 h5 bv), (h3, mkC h4), (h4, .inl (cJ, 4, .inr (.inl f))), (h7, cuC cv), (h5, mkC h6), (h6, .inl (cJ, 4, .inr (.inl g))), (h1, tmC tv), (r0, rdC ov (va_rf ol) r1 r2 r3 r4 r5), (r1, chC cf cl zn 0), (r2, chC cf cl zn 1), (r3, chC cf cl zn 2), (r4, chC cf cl zn 3), (r5, tlC cI tf)] ++ va_pl L (pf cJ kd pi bd af bo)) := hD
    refine W.widen (k := 2) (n := 11) (Nat.le_of_ble_eq_true rfl) (Nat.le_of_ble_eq_true rfl) ?_
    have hR := hf_124.1
    have hPB := hf_124.2.1
    have hZ := hf_124.2.2.1
    have hT := hf_124.2.2.2.1
    have hg0 := gr_trans hle0 hg0 hf_124.2.2.2.2.1
    have hb1 := hf_124.2.2.2.2.2.1
    have hLK := hf_124.2.2.2.2.2.2.1
    have hq0 := (hf_124.2.2.2.2.2.2.2.2.2.2.2 hq0).1
    have hQ := QQ_trans hQ hf_124.2.2.2.2.2.2.2
    have hP9 : va_P D vwCl ([(r0, rdC ov (va_rf ol) r1 r2 r3 r4 r5), (r1, chC cf cl zn 0), (r2, chC cf cl zn 1), (r3, chC cf cl zn 2), (r4, chC cf cl zn 3), (r5, tlC cI tf), (h0, snC n0 k0 g0 sv h1 h2 h7), (h1, tmC tv), (h2, boC h3 h5 bv), (h3, mkC h4), (h4, .inl (cJ, 4, .inr (.inl f))), (h5, mkC h6), (h6, .inl (cJ, 4, .inr (.inl g))), (h7, cuC cv)] ++ va_pl L (pf cJ kd pi bd af bo)) _ := hP.part [8, 9, 10, 11, 12, 13, 0, 7, 1, 2, 3, 5, 6, 4] rfl
    have hD9 : va_D A ([(r0, rdC ov (va_rf ol) r1 r2 r3 r4 r5), (r1, chC cf cl zn 0), (r2, chC cf cl zn 1), (r3, chC cf cl zn 2), (r4, chC cf cl zn 3), (r5, tlC cI tf), (h0, snC n0 k0 g0 sv h1 h2 h7), (h1, tmC tv), (h2, boC h3 h5 bv), (h3, mkC h4), (h4, .inl (cJ, 4, .inr (.inl f))), (h5, mkC h6), (h6, .inl (cJ, 4, .inr (.inl g))), (h7, cuC cv)] ++ va_pl L (pf cJ kd pi bd af bo)) := hD.part [8, 9, 10, 11, 12, 13, 0, 7, 1, 2, 3, 5, 6, 4] (by decide) rfl
    exact W.vret hx hb hr (fun t ht hW => ⟨⟨(), rfl, trivial, ⟨sv, tv, bv, cv, f, g, ov, tf, ol, cf, cl, zn, xl, tag, L, kd, pi, bd, af, bo, (0 + q_121), go, gq, ⟨⟨hR, hPB, hZ, hT, by rw [ht]; exact hg0, by omega, hLK, hQ⟩, ⟨hG, hJ⟩, (by rw [← hRES, hE]), (by rw [← hRES, hE]), (by rw [← hRES, hE]), (by rw [← hRES, hE]), (by rw [← hRES, hE]), (by rw [← hRES, hE]), (by rw [← hRES, hE]), (by rw [← hRES, hE]), (by rw [← hRES, hE]), (by rw [← hRES, hE])⟩, by rw [ht]; exact hP9, va_K.moved hW.alike hK, hD9⟩⟩, hS.F ht⟩) hS.2.2 dX8_transmit_77
