set_option maxRecDepth 100000 in
def xc_probe (ov : Nat → Int32) (go : Option S4) (gq : List S3) (tf : Nat → Int32) (n0 : Int32) (k0 : Int32) (g0 : Int32) (sv : Nat → Int32) (tv : Nat → Int32) (bv : Nat → Int32) (cv : Nat → Int32) (f : Nat → Int64) (g : Nat → Int64) (n1 : Int32) : (Nat → Int32) × (Nat → Int32) × (Nat → Int32) × (Nat → Int32) × (Nat → Int64) × (Nat → Int64) × (Nat → Int32) × (Nat → Int32) × (Option S4) × (List S3) := bd (sv 16) (fun v1 => bd (v1 + (1 : Int32)) (fun v2 => bd (upd sv 16 v2) (fun sv => bd (sv 5) (fun v3 => bd (sv 4) (fun v4 => bd (v4 + (1 : Int32)) (fun v5 => bd (if v3 < v5 then v5 else v3) (fun v6 => bd (upd sv 5 v6) (fun sv => bd (sv 4) (fun v7 => bd (xc_launch ov go gq tf n0 v7 (1 : Int32) n1) (fun t8 => bd (t8.1) (fun ov => bd (t8.2.1) (fun tf => bd (t8.2.2.1) (fun go => bd (t8.2.2.2) (fun gq => bd (xc_tdouble tv) (fun t9 => bd (t9) (fun tv => bd (xc_tset tv n1) (fun t10 => bd (t10) (fun tv => (sv, tv, bv, cv, f, g, ov, tf, go, gq)))))))))))))))))))
set_option maxHeartbeats 4000000 in
set_option maxRecDepth 100000 in
theorem s_probe (l : Launch) (D : va_G) (cI cJ cZ cO : ClassId) (Hh : Heap) (r0 r1 r2 r3 r4 r5 : Nat) (ov : Nat → Int32) (ol : Option Nat) (cf cl : Nat → Option Nat) (zn : Nat → Int32) (xl : Nat → List Nat) (tag : Nat → Nat) (L : List Nat) (kd : Nat → Bool) (pi : Nat → Nat → Int32) (bd : Nat → Nat) (af : Nat → Option Nat) (bo : Nat → Nat → Int64) (go : Option S4) (gq : List S3) (gw : List S4) (ga : List A6) (tf : Nat → Int32) (h0 h1 h2 h3 h4 h5 h6 h7 : Nat) (n0 k0 g0 : Int32) (sv tv bv cv : Nat → Int32) (f g : Nat → Int64) (n1 : Int32) (hR : RI L kd af tag cf cl xl ol) (hPB : PB L kd pi bd) (hZ : ZN zn xl) (hG : GG xl pi bd bo ol go gq gw ga) (hJ : JB L kd bd) (hT : 0 ≤ ov 10) (hLK : LK ov) (hq0 : (xl 0).length ≤ 100) : Met l yX8_probe (wa yX8_probe cX8_probe 3 none) ({ frames := 3, cells := 2, slots := 11, locals := 66 }) (va_Pc [.ref h0, .ref r0, .int n1] (pw_h D cI cJ cZ cO Hh ([(r0, rdC ov (va_rf ol) r1 r2 r3 r4 r5), (r1, chC cf cl zn 0), (r2, chC cf cl zn 1), (r3, chC cf cl zn 2), (r4, chC cf cl zn 3), (r5, tlC cI tf), (h0, snC n0 k0 g0 sv h1 h2 h7), (h1, tmC tv), (h2, boC h3 h5 bv), (h3, mkC h4), (h4, .inl (cJ, 4, .inr (.inl f))), (h5, mkC h6), (h6, .inl (cJ, 4, .inr (.inl g))), (h7, cuC cv)] ++ va_pl L (pf cJ kd pi bd af bo)))) (va_Qv (fun (_ : Unit) => True) (fun (_ : Unit) (t : State) => ∃ (sv2 tv2 bv2 cv2 : Nat → Int32) (f2 g2 : Nat → Int64) (ov2 tf2 : Nat → Int32) (ol2 : Option Nat) (cf2 cl2 : Nat → Option Nat) (zn2 : Nat → Int32) (xl2 : Nat → List Nat) (tag2 : Nat → Nat) (L2 : List Nat) (kd2 : Nat → Bool) (pi2 : Nat → Nat → Int32) (bd2 : Nat → Nat) (af2 : Nat → Option Nat) (bo2 : Nat → Nat → Int64) (b2 : Nat) (go2 : Option S4) (gq2 : List S3), ((RI L2 kd2 af2 tag2 cf2 cl2 xl2 ol2 ∧ PB L2 kd2 pi2 bd2 ∧ ZN zn2 xl2 ∧ 0 ≤ ov2 10 ∧ gr Hh t.heap b2 ∧ b2 ≤ 1 ∧ LK ov2 ∧ QQ L kd tag xl pi ol L2 kd2 tag2 xl2 pi2 ol2 [] [] b2 0) ∧ (GG xl2 pi2 bd2 bo2 ol2 go2 gq2 gw ga ∧ JB L2 kd2 bd2) ∧ sv2 = (xc_probe ov go gq tf n0 k0 g0 sv tv bv cv f g n1).1 ∧ tv2 = (xc_probe ov go gq tf n0 k0 g0 sv tv bv cv f g n1).2.1 ∧ bv2 = (xc_probe ov go gq tf n0 k0 g0 sv tv bv cv f g n1).2.2.1 ∧ cv2 = (xc_probe ov go gq tf n0 k0 g0 sv tv bv cv f g n1).2.2.2.1 ∧ f2 = (xc_probe ov go gq tf n0 k0 g0 sv tv bv cv f g n1).2.2.2.2.1 ∧ g2 = (xc_probe ov go gq tf n0 k0 g0 sv tv bv cv f g n1).2.2.2.2.2.1 ∧ ov2 = (xc_probe ov go gq tf n0 k0 g0 sv tv bv cv f g n1).2.2.2.2.2.2.1 ∧ tf2 = (xc_probe ov go gq tf n0 k0 g0 sv tv bv cv f g n1).2.2.2.2.2.2.2.1 ∧ go2 = (xc_probe ov go gq tf n0 k0 g0 sv tv bv cv f g n1).2.2.2.2.2.2.2.2.1 ∧ gq2 = (xc_probe ov go gq tf n0 k0 g0 sv tv bv cv f g n1).2.2.2.2.2.2.2.2.2) ∧ pw_t D cI cJ cZ cO (va_A ([(r0, rdC ov (va_rf ol) r1 r2 r3 r4 r5), (r1, chC cf cl zn 0), (r2, chC cf cl zn 1), (r3, chC cf cl zn 2), (r4, chC cf cl zn 3), (r5, tlC cI tf), (h0, snC n0 k0 g0 sv h1 h2 h7), (h1, tmC tv), (h2, boC h3 h5 bv), (h3, mkC h4), (h4, .inl (cJ, 4, .inr (.inl f))), (h5, mkC h6), (h6, .inl (cJ, 4, .inr (.inl g))), (h7, cuC cv)] ++ va_pl L (pf cJ kd pi bd af bo)) Hh.size) ([(r0, rdC ov2 (va_rf ol2) r1 r2 r3 r4 r5), (r1, chC cf2 cl2 zn2 0), (r2, chC cf2 cl2 zn2 1), (r3, chC cf2 cl2 zn2 2), (r4, chC cf2 cl2 zn2 3), (r5, tlC cI tf2), (h0, snC n0 k0 g0 sv2 h1 h2 h7), (h1, tmC tv2), (h2, boC h3 h5 bv2), (h3, mkC h4), (h4, .inl (cJ, 4, .inr (.inl f2))), (h5, mkC h6), (h6, .inl (cJ, 4, .inr (.inl g2))), (h7, cuC cv2)] ++ va_pl L2 (pf cJ kd2 pi2 bd2 af2 bo2)) t) (va_A ([(r0, rdC ov (va_rf ol) r1 r2 r3 r4 r5), (r1, chC cf cl zn 0), (r2, chC cf cl zn 1), (r3, chC cf cl zn 2), (r4, chC cf cl zn 3), (r5, tlC cI tf), (h0, snC n0 k0 g0 sv h1 h2 h7), (h1, tmC tv), (h2, boC h3 h5 bv), (h3, mkC h4), (h4, .inl (cJ, 4, .inr (.inl f))), (h5, mkC h6), (h6, .inl (cJ, 4, .inr (.inl g))), (h7, cuC cv)] ++ va_pl L (pf cJ kd pi bd af bo)) Hh.size)) 2 11 (va_A ([(r0, rdC ov (va_rf ol) r1 r2 r3 r4 r5), (r1, chC cf cl zn 0), (r2, chC cf cl zn 1), (r3, chC cf cl zn 2), (r4, chC cf cl zn 3), (r5, tlC cI tf), (h0, snC n0 k0 g0 sv h1 h2 h7), (h1, tmC tv), (h2, boC h3 h5 bv), (h3, mkC h4), (h4, .inl (cJ, 4, .inr (.inl f))), (h5, mkC h6), (h6, .inl (cJ, 4, .inr (.inl g))), (h7, cuC cv)] ++ va_pl L (pf cJ kd pi bd af bo)) Hh.size) := by
  refine Met.ofW (cc := cX8_probe) (maxL := 3) (ret := none) (by decide) rfl ?_
  intro p e s m args below meth c s₁ B hml hv
  obtain ⟨rfl, hsz, hP, hK, hD0, hN⟩ := hv
  have hx := B.exec
  have hb := B.bytes
  have hr := B.returns
  have hts := atoms_spec (ws := (wa yX8_probe cX8_probe 3 none)) B.pre
  have ha : ∀ w ∈ wsL_law, w.before _ s = true := fun w h => hts w (List.mem_cons_of_mem _ h)
  have hown : s.vm.findClass RX8 = some m.cls := findClass_of_methodNamed B.named
  have hlocks := B.notSynchronized
  subst hsz
  have hD := hD0.self (sz := s.heap.size)
  generalize hAe : va_A ([(r0, rdC ov (va_rf ol) r1 r2 r3 r4 r5), (r1, chC cf cl zn 0), (r2, chC cf cl zn 1), (r3, chC cf cl zn 2), (r4, chC cf cl zn 3), (r5, tlC cI tf), (h0, snC n0 k0 g0 sv h1 h2 h7), (h1, tmC tv), (h2, boC h3 h5 bv), (h3, mkC h4), (h4, .inl (cJ, 4, .inr (.inl f))), (h5, mkC h6), (h6, .inl (cJ, 4, .inr (.inl g))), (h7, cuC cv)] ++ va_pl L (pf cJ kd pi bd af bo)) s.heap.size = A at hD ⊢
  have hA : ∀ q : Nat, s.heap.size ≤ q → A q := fun q h => by rw [← hAe]; exact Or.inr h
  have hS : va_S A s.heap s.heap [] := va_S.rf
  have hP : va_P D vwCl ([(r0, rdC ov (va_rf ol) r1 r2 r3 r4 r5), (r1, chC cf cl zn 0), (r2, chC cf cl zn 1), (r3, chC cf cl zn 2), (r4, chC cf cl zn 3), (r5, tlC cI tf), (h0, snC n0 k0 g0 sv h1 h2 h7), (h1, tmC tv), (h2, boC h3 h5 bv), (h3, mkC h4), (h4, .inl (cJ, 4, .inr (.inl f))), (h5, mkC h6), (h6, .inl (cJ, 4, .inr (.inl g))), (h7, cuC cv)] ++ va_pl L (pf cJ kd pi bd af bo)) s.heap := hP
  have hl := lv_entry ([.ref h0, .ref r0, .int n1]) (n := 3) (Nat.le_of_ble_eq_true rfl)
  rw [lg_entry_eq]
  generalize (lg_sl ([.ref h0, .ref r0, .int n1]) ++ List.replicate (3 - (lg_sl ([.ref h0, .ref r0, .int n1])).length) Slot.unset).toArray = ls at hl ⊢
  have hl : lv_has ls 3 [(0, .ref h0), (1, .ref r0), (2, .int n1)] := hl
  obtain ⟨QP, hQP⟩ : ∃ y : State → Prop, y = (MQ below (va_Qv (fun (_ : Unit) => True) (fun (_ : Unit) (t : State) => ∃ (sv2 tv2 bv2 cv2 : Nat → Int32) (f2 g2 : Nat → Int64) (ov2 tf2 : Nat → Int32) (ol2 : Option Nat) (cf2 cl2 : Nat → Option Nat) (zn2 : Nat → Int32) (xl2 : Nat → List Nat) (tag2 : Nat → Nat) (L2 : List Nat) (kd2 : Nat → Bool) (pi2 : Nat → Nat → Int32) (bd2 : Nat → Nat) (af2 : Nat → Option Nat) (bo2 : Nat → Nat → Int64) (b2 : Nat) (go2 : Option S4) (gq2 : List S3), ((RI L2 kd2 af2 tag2 cf2 cl2 xl2 ol2 ∧ PB L2 kd2 pi2 bd2 ∧ ZN zn2 xl2 ∧ 0 ≤ ov2 10 ∧ gr s.heap t.heap b2 ∧ b2 ≤ 1 ∧ LK ov2 ∧ QQ L kd tag xl pi ol L2 kd2 tag2 xl2 pi2 ol2 [] [] b2 0) ∧ (GG xl2 pi2 bd2 bo2 ol2 go2 gq2 gw ga ∧ JB L2 kd2 bd2) ∧ sv2 = (xc_probe ov go gq tf n0 k0 g0 sv tv bv cv f g n1).1 ∧ tv2 = (xc_probe ov go gq tf n0 k0 g0 sv tv bv cv f g n1).2.1 ∧ bv2 = (xc_probe ov go gq tf n0 k0 g0 sv tv bv cv f g n1).2.2.1 ∧ cv2 = (xc_probe ov go gq tf n0 k0 g0 sv tv bv cv f g n1).2.2.2.1 ∧ f2 = (xc_probe ov go gq tf n0 k0 g0 sv tv bv cv f g n1).2.2.2.2.1 ∧ g2 = (xc_probe ov go gq tf n0 k0 g0 sv tv bv cv f g n1).2.2.2.2.2.1 ∧ ov2 = (xc_probe ov go gq tf n0 k0 g0 sv tv bv cv f g n1).2.2.2.2.2.2.1 ∧ tf2 = (xc_probe ov go gq tf n0 k0 g0 sv tv bv cv f g n1).2.2.2.2.2.2.2.1 ∧ go2 = (xc_probe ov go gq tf n0 k0 g0 sv tv bv cv f g n1).2.2.2.2.2.2.2.2.1 ∧ gq2 = (xc_probe ov go gq tf n0 k0 g0 sv tv bv cv f g n1).2.2.2.2.2.2.2.2.2) ∧ pw_t D cI cJ cZ cO A ([(r0, rdC ov2 (va_rf ol2) r1 r2 r3 r4 r5), (r1, chC cf2 cl2 zn2 0), (r2, chC cf2 cl2 zn2 1), (r3, chC cf2 cl2 zn2 2), (r4, chC cf2 cl2 zn2 3), (r5, tlC cI tf2), (h0, snC n0 k0 g0 sv2 h1 h2 h7), (h1, tmC tv2), (h2, boC h3 h5 bv2), (h3, mkC h4), (h4, .inl (cJ, 4, .inr (.inl f2))), (h5, mkC h6), (h6, .inl (cJ, 4, .inr (.inl g2))), (h7, cuC cv2)] ++ va_pl L2 (pf cJ kd2 pi2 bd2 af2 bo2)) t) A) #[(.ref h0 : Value), (.ref r0 : Value), (.int n1 : Value)] s 2 11 A) := ⟨_, rfl⟩
  obtain ⟨RES, hRES⟩ : ∃ y, y = (xc_probe ov go gq tf n0 k0 g0 sv tv bv cv f g n1) := ⟨_, rfl⟩
  have hQ : QQ L kd tag xl pi ol L kd tag xl pi ol [] [] 0 0 := QQ_rf
  -- from the entry
  have hE := hRES
  unfold xc_probe at hE
  refine lv_aload_n hx hb dX8_probe_0 rfl (lv_at hl 0 rfl) ?_
  refine lv_dup hx hb dX8_probe_1 rfl ?_
  refine va_get (D := D) (ci := 8) (v := .int (sv 16)) (C := RX8) (T := TX8) (N := 20) hx hb ha inlX8 hown hK hP 6 rfl rfl 16 (by decide) (ha _ kf_X8_159) (fun _ h9 => h9) rfl dX8_probe_2 ?_
  refine lv_topi (fun x_35 ex_35 => ?_)
  have hE := bd_at ex_35 hE
  refine lv_iconst (v := 1) hx hb dX8_probe_5 (by decide) ?_
  refine lv_iadd hx hb dX8_probe_6 ?_
  refine lv_topi (fun x_36 ex_36 => ?_)
  have hE := bd_at ex_36 hE
  refine va_put (D := D) (ci := 8) (v := .int x_36) (ty := .int) (C := RX8) (T := TX8) (N := 20) hx hb ha inlX8 tyX8 tyX8_ok nmX8 hown hK hP hD hS 6 rfl rfl 16 (by decide) (ha _ kf_X8_159) (fun _ h9 => h9) rfl (by decide +kernel) rfl rfl (Nat.le_of_ble_eq_true rfl) dX8_probe_7 (fun H locs hP hD hS => ?_)
  have hP : va_P D vwCl ([(r0, rdC ov (va_rf ol) r1 r2 r3 r4 r5), (r1, chC cf cl zn 0), (r2, chC cf cl zn 1), (r3, chC cf cl zn 2), (r4, chC cf cl zn 3), (r5, tlC cI tf), (h0, snC n0 k0 g0 (upd sv 16 x_36) h1 h2 h7), (h1, tmC tv), (h2, boC h3 h5 bv), (h3, mkC h4), (h4, .inl (cJ, 4, .inr (.inl f))), (h5, mkC h6), (h6, .inl (cJ, 4, .inr (.inl g))), (h7, cuC cv)] ++ va_pl L (pf cJ kd pi bd af bo)) H := hP
  have hD : va_D A ([(r0, rdC ov (va_rf ol) r1 r2 r3 r4 r5), (r1, chC cf cl zn 0), (r2, chC cf cl zn 1), (r3, chC cf cl zn 2), (r4, chC cf cl zn 3), (r5, tlC cI tf), (h0, snC n0 k0 g0 (upd sv 16 x_36) h1 h2 h7), (h1, tmC tv), (h2, boC h3 h5 bv), (h3, mkC h4), (h4, .inl (cJ, 4, .inr (.inl f))), (h5, mkC h6), (h6, .inl (cJ, 4, .inr (.inl g))), (h7, cuC cv)] ++ va_pl L (pf cJ kd pi bd af bo)) := hD
  generalize hg_37 : upd sv 16 x_36 = sv at hP hD
  have hE := bs_at hg_37 hE
  refine lv_aload_n hx hb dX8_probe_10 rfl (lv_at hl 0 rfl) ?_
  refine lv_aload_n hx hb dX8_probe_11 rfl (lv_at hl 0 rfl) ?_
  refine va_get (D := D) (ci := 8) (v := .int (sv 5)) (C := RX8) (T := TX8) (N := 20) hx hb ha inlX8 hown hK hP 6 rfl rfl 5 (by decide) (ha _ kf_X8_79) (fun _ h9 => h9) rfl dX8_probe_12 ?_
  refine lv_topi (fun x_38 ex_38 => ?_)
  have hE := bd_at ex_38 hE
  refine lv_aload_n hx hb dX8_probe_15 rfl (lv_at hl 0 rfl) ?_
  refine va_get (D := D) (ci := 8) (v := .int (sv 4)) (C := RX8) (T := TX8) (N := 20) hx hb ha inlX8 hown hK hP 6 rfl rfl 4 (by decide) (ha _ kf_X8_65) (fun _ h9 => h9) rfl dX8_probe_16 ?_
  refine lv_topi (fun x_39 ex_39 => ?_)
  have hE := bd_at ex_39 hE
  refine lv_iconst (v := 1) hx hb dX8_probe_19 (by decide) ?_
  refine lv_iadd hx hb dX8_probe_20 ?_
  refine lv_topi (fun x_40 ex_40 => ?_)
  have hE := bd_at ex_40 hE
  refine va_mmax hx hb (hml.trans hl.1.symm) hown (ha _ kl_X8_191) (ha _ kt_max) (ha _ kz_J9) (ha _ kd_max) (Nat.le_of_ble_eq_true rfl) (Nat.le_of_ble_eq_true rfl) (Nat.le_of_ble_eq_true rfl) (Nat.le_of_ble_eq_true rfl) dX8_probe_21 ?_
  refine lv_topi (fun x_41 ex_41 => ?_)
  have hE := bd_at ex_41 hE
  refine va_put (D := D) (ci := 8) (v := .int x_41) (ty := .int) (C := RX8) (T := TX8) (N := 20) hx hb ha inlX8 tyX8 tyX8_ok nmX8 hown hK hP hD hS 6 rfl rfl 5 (by decide) (ha _ kf_X8_79) (fun _ h9 => h9) rfl (by decide +kernel) rfl rfl (Nat.le_of_ble_eq_true rfl) dX8_probe_24 (fun H locs hP hD hS => ?_)
  have hP : va_P D vwCl ([(r0, rdC ov (va_rf ol) r1 r2 r3 r4 r5), (r1, chC cf cl zn 0), (r2, chC cf cl zn 1), (r3, chC cf cl zn 2), (r4, chC cf cl zn 3), (r5, tlC cI tf), (h0, snC n0 k0 g0 (upd sv 5 x_41) h1 h2 h7), (h1, tmC tv), (h2, boC h3 h5 bv), (h3, mkC h4), (h4, .inl (cJ, 4, .inr (.inl f))), (h5, mkC h6), (h6, .inl (cJ, 4, .inr (.inl g))), (h7, cuC cv)] ++ va_pl L (pf cJ kd pi bd af bo)) H := hP
  have hD : va_D A ([(r0, rdC ov (va_rf ol) r1 r2 r3 r4 r5), (r1, chC cf cl zn 0), (r2, chC cf cl zn 1), (r3, chC cf cl zn 2), (r4, chC cf cl zn 3), (r5, tlC cI tf), (h0, snC n0 k0 g0 (upd sv 5 x_41) h1 h2 h7), (h1, tmC tv), (h2, boC h3 h5 bv), (h3, mkC h4), (h4, .inl (cJ, 4, .inr (.inl f))), (h5, mkC h6), (h6, .inl (cJ, 4, .inr (.inl g))), (h7, cuC cv)] ++ va_pl L (pf cJ kd pi bd af bo)) := hD
  generalize hg_42 : upd sv 5 x_41 = sv at hP hD
  have hE := bs_at hg_42 hE
  refine lv_aload_n hx hb dX8_probe_27 rfl (lv_at hl 1 rfl) ?_
  refine lv_aload_n hx hb dX8_probe_28 rfl (lv_at hl 0 rfl) ?_
  refine va_get (D := D) (ci := 8) (v := .int n0) (C := RX8) (T := TX8) (N := 20) hx hb ha inlX8 hown hK hP 6 rfl rfl 0 (by decide) (ha _ kf_X8_46) (fun _ h9 => h9) rfl dX8_probe_29 ?_
  refine lv_aload_n hx hb dX8_probe_32 rfl (lv_at hl 0 rfl) ?_
  refine va_get (D := D) (ci := 8) (v := .int (sv 4)) (C := RX8) (T := TX8) (N := 20) hx hb ha inlX8 hown hK hP 6 rfl rfl 4 (by decide) (ha _ kf_X8_65) (fun _ h9 => h9) rfl dX8_probe_33 ?_
  refine lv_topi (fun x_43 ex_43 => ?_)
  have hE := bd_at ex_43 hE
  refine lv_iconst (v := 1) hx hb dX8_probe_36 (by decide) ?_
  refine lv_iload_n hx hb dX8_probe_37 rfl (lv_at hl 2 rfl) ?_
  have hPc := hP.part (X := [(r0, rdC ov (va_rf ol) r1 r2 r3 r4 r5), (r1, chC cf cl zn 0), (r2, chC cf cl zn 1), (r3, chC cf cl zn 2), (r4, chC cf cl zn 3), (r5, tlC cI tf), (h0, snC n0 k0 g0 sv h1 h2 h7), (h1, tmC tv), (h2, boC h3 h5 bv), (h3, mkC h4), (h4, .inl (cJ, 4, .inr (.inl f))), (h5, mkC h6), (h6, .inl (cJ, 4, .inr (.inl g))), (h7, cuC cv)]) (cx := [(r0, rdC ov (va_rf ol) r1 r2 r3 r4 r5), (r1, chC cf cl zn 0), (r2, chC cf cl zn 1), (r3, chC cf cl zn 2), (r4, chC cf cl zn 3), (r5, tlC cI tf)]) (pl := va_pl L (pf cJ kd pi bd af bo)) [0, 1, 2, 3, 4, 5] rfl
  have hDc := hD.part (X := [(r0, rdC ov (va_rf ol) r1 r2 r3 r4 r5), (r1, chC cf cl zn 0), (r2, chC cf cl zn 1), (r3, chC cf cl zn 2), (r4, chC cf cl zn 3), (r5, tlC cI tf), (h0, snC n0 k0 g0 sv h1 h2 h7), (h1, tmC tv), (h2, boC h3 h5 bv), (h3, mkC h4), (h4, .inl (cJ, 4, .inr (.inl f))), (h5, mkC h6), (h6, .inl (cJ, 4, .inr (.inl g))), (h7, cuC cv)]) (cx := [(r0, rdC ov (va_rf ol) r1 r2 r3 r4 r5), (r1, chC cf cl zn 0), (r2, chC cf cl zn 1), (r3, chC cf cl zn 2), (r4, chC cf cl zn 3), (r5, tlC cI tf)]) (pl := va_pl L (pf cJ kd pi bd af bo)) [0, 1, 2, 3, 4, 5] (by decide) rfl
  have hFc := va_freeP (X := [(r0, rdC ov (va_rf ol) r1 r2 r3 r4 r5), (r1, chC cf cl zn 0), (r2, chC cf cl zn 1), (r3, chC cf cl zn 2), (r4, chC cf cl zn 3), (r5, tlC cI tf), (h0, snC n0 k0 g0 sv h1 h2 h7), (h1, tmC tv), (h2, boC h3 h5 bv), (h3, mkC h4), (h4, .inl (cJ, 4, .inr (.inl f))), (h5, mkC h6), (h6, .inl (cJ, 4, .inr (.inl g))), (h7, cuC cv)]) (cx := [(r0, rdC ov (va_rf ol) r1 r2 r3 r4 r5), (r1, chC cf cl zn 0), (r2, chC cf cl zn 1), (r3, chC cf cl zn 2), (r4, chC cf cl zn 3), (r5, tlC cI tf)]) (pl := va_pl L (pf cJ kd pi bd af bo)) hD hS hA [0, 1, 2, 3, 4, 5] rfl
  refine W.know2 (fun hka hkb => ?_)
  have hg0 : gr s.heap _ 0 := ⟨hka, hkb⟩
  have hle0 := hS.1
  refine va_callv (va_runV (As := [.int n0, .int x_43, .int 1, .int n1]) (rest := []) ⟨hx, hb, hml, hown, ha⟩ (s_launch l D cI cJ cZ cO _ r0 r1 r2 r3 r4 r5 ov ol cf cl zn xl tag L kd pi bd af bo go gq gw ga tf n0 x_43 1 n1 (by decide) hR hPB hZ hG hJ hT hLK hq0) (cwV 4 ha (gaV kl_X8_200 km_X7_launch ks_X7_launch kz_X7 kd_X7_launch) rfl rfl rfl (by decide +kernel) ⟨Nat.le_of_ble_eq_true rfl, Nat.le_of_ble_eq_true rfl⟩) ⟨pw_blindh, va_recv hK hPc (ci := 7) (q0 := 0) rfl rfl, fun U hU hW => ⟨rfl, pw_starth hU hW hPc hK hDc hN⟩⟩ rfl rfl hl.1 rfl (lv_room (Nat.le_of_ble_eq_true rfl)) dX8_probe_38 ⟨Nat.le_of_ble_eq_true rfl, Nat.le_of_ble_eq_true rfl⟩) hS (fun q _ h => hFc q h) hFc (fun u t H1 locs ht hvm hw hB hz1 hk1 hS => ?_)
  obtain ⟨ov, tf, ol, cf, cl, zn, xl, tag, L, kd, pi, bd, af, bo, q_59, go, gq, ⟨hf_62, ⟨hG, hJ⟩, hX0, hX1, hX2, hX3⟩, hP1, hK1, hD1⟩ := hB
  have hE := bd_at rfl hE
  have hE := bd_at hX0 hE
  have hE := bd_at hX1 hE
  have hE := bd_at hX2 hE
  have hE := bd_at hX3 hE
  rw [ht] at hP1
  rw [ht] at hf_62
  obtain ⟨hP, hD⟩ := va_joinP (wr := [(h0, snC n0 k0 g0 sv h1 h2 h7), (h1, tmC tv), (h2, boC h3 h5 bv), (h3, mkC h4), (h4, .inl (cJ, 4, .inr (.inl f))), (h5, mkC h6), (h6, .inl (cJ, 4, .inr (.inl g))), (h7, cuC cv)]) (rx := [(r0, rdC ov (va_rf ol) r1 r2 r3 r4 r5), (r1, chC cf cl zn 0), (r2, chC cf cl zn 1), (r3, chC cf cl zn 2), (r4, chC cf cl zn 3), (r5, tlC cI tf)]) (pl1 := va_pl L (pf cJ kd pi bd af bo)) hP hD [0, 1, 2, 3, 4, 5] [6, 7, 8, 9, 10, 11, 12, 13] rfl rfl (by decide) (by decide) hk1 hFc hP1 hD1
  generalize H1 = H at hP hS hf_62 ⊢
  have hP : va_P D vwCl ([(h0, snC n0 k0 g0 sv h1 h2 h7), (h1, tmC tv), (h2, boC h3 h5 bv), (h3, mkC h4), (h4, .inl (cJ, 4, .inr (.inl f))), (h5, mkC h6), (h6, .inl (cJ, 4, .inr (.inl g))), (h7, cuC cv), (r0, rdC ov (va_rf ol) r1 r2 r3 r4 r5), (r1, chC cf cl zn 0), (r2, chC cf cl zn 1), (r3, chC cf cl zn 2), (r4, chC cf cl zn 3), (r5, tlC cI tf)] ++ va_pl L (pf cJ kd pi bd af bo)) H := hP
  have hD : va_D A ([(h0, snC n0 k0 g0 sv h1 h2 h7), (h1, tmC tv), (h2, boC h3 h5 bv), (h3, mkC h4), (h4, .inl (cJ, 4, .inr (.inl f))), (h5, mkC h6), (h6, .inl (cJ, 4, .inr (.inl g))), (h7, cuC cv), (r0, rdC ov (va_rf ol) r1 r2 r3 r4 r5), (r1, chC cf cl zn 0), (r2, chC cf cl zn 1), (r3, chC cf cl zn 2), (r4, chC cf cl zn 3), (r5, tlC cI tf)] ++ va_pl L (pf cJ kd pi bd af bo)) := hD
  refine W.widen (k := 2) (n := 11) (Nat.le_of_ble_eq_true rfl) (Nat.le_of_ble_eq_true rfl) ?_
  have hR := hf_62.1
  have hPB := hf_62.2.1
  have hZ := hf_62.2.2.1
  have hT := hf_62.2.2.2.1
  have hg0 := gr_trans hle0 hg0 hf_62.2.2.2.2.1
  have hb1 := hf_62.2.2.2.2.2.1
  have hLK := hf_62.2.2.2.2.2.2.1
  have hq0 := (hf_62.2.2.2.2.2.2.2.2.2.2.2 hq0).1
  have hQ := QQ_trans hQ hf_62.2.2.2.2.2.2.2
  refine W.grown hg0 ?_
  refine lv_aload_n hx hb dX8_probe_41 rfl (lv_at hl 0 rfl) ?_
  refine va_get (D := D) (ci := 8) (v := .ref h1) (C := RX8) (T := TX8) (N := 20) hx hb ha inlX8 hown hK hP 0 rfl rfl 17 (by decide) (ha _ kf_X8_28) (fun _ h9 => h9) rfl dX8_probe_42 ?_
  have hPc := hP.sub (ws' := [(h1, tmC tv)]) [1] rfl
  have hDc := hD.sub (ws' := [(h1, tmC tv)]) [1] (by decide) rfl
  have hFc := va_free (wc := [(h1, tmC tv)]) hD hS hA [1] rfl
  refine va_callv (va_runV (As := []) (rest := []) ⟨hx, hb, hml, hown, ha⟩ (s_tdouble l D cI cJ cZ cO _ h1 tv) (cwV 0 ha (gaV kl_X8_206 km_X9_doubleRto ks_X9_doubleRto kz_X9 kd_X9_doubleRto) rfl rfl rfl (by decide +kernel) ⟨Nat.le_of_ble_eq_true rfl, Nat.le_of_ble_eq_true rfl⟩) ⟨pw_blind, va_recv hK hPc (ci := 9) (q0 := 0) rfl rfl, fun U hU hW => ⟨rfl, pw_start hU hW hPc hK hDc hN⟩⟩ rfl rfl hl.1 rfl (lv_room (Nat.le_of_ble_eq_true rfl)) dX8_probe_45 ⟨show 2 * (0 + q_59) + 0 ≤ 2 by omega, show 11 * (0 + q_59) + 0 ≤ 11 by omega⟩) hS (fun q _ h => hFc q h) hFc (fun u t H1 locs ht hvm hw hB hz1 hk1 hS => ?_)
  obtain ⟨tv, hX0, hP1, hK1, hD1⟩ := hB
  have hE := bd_at rfl hE
  have hE := bd_at hX0 hE
  rw [ht] at hP1
  obtain ⟨hP, hD⟩ := va_joinQ (wr := [(h0, snC n0 k0 g0 sv h1 h2 h7), (h2, boC h3 h5 bv), (h3, mkC h4), (h4, .inl (cJ, 4, .inr (.inl f))), (h5, mkC h6), (h6, .inl (cJ, 4, .inr (.inl g))), (h7, cuC cv), (r0, rdC ov (va_rf ol) r1 r2 r3 r4 r5), (r1, chC cf cl zn 0), (r2, chC cf cl zn 1), (r3, chC cf cl zn 2), (r4, chC cf cl zn 3), (r5, tlC cI tf)]) (w1 := [(h1, tmC tv)]) hP hD [1] [0, 2, 3, 4, 5, 6, 7, 8, 9, 10, 11, 12, 13] rfl rfl (by decide) (by decide) hk1 hFc hP1 hD1
  generalize H1 = H at hP hS ⊢
  have hP : va_P D vwCl ([(h0, snC n0 k0 g0 sv h1 h2 h7), (h2, boC h3 h5 bv), (h3, mkC h4), (h4, .inl (cJ, 4, .inr (.inl f))), (h5, mkC h6), (h6, .inl (cJ, 4, .inr (.inl g))), (h7, cuC cv), (r0, rdC ov (va_rf ol) r1 r2 r3 r4 r5), (r1, chC cf cl zn 0), (r2, chC cf cl zn 1), (r3, chC cf cl zn 2), (r4, chC cf cl zn 3), (r5, tlC cI tf), (h1, tmC tv)] ++ va_pl L (pf cJ kd pi bd af bo)) H := hP
  have hD : va_D A ([(h0, snC n0 k0 g0 sv h1 h2 h7), (h2, boC h3 h5 bv), (h3, mkC h4), (h4, .inl (cJ, 4, .inr (.inl f))), (h5, mkC h6), (h6, .inl (cJ, 4, .inr (.inl g))), (h7, cuC cv), (r0, rdC ov (va_rf ol) r1 r2 r3 r4 r5), (r1, chC cf cl zn 0), (r2, chC cf cl zn 1), (r3, chC cf cl zn 2), (r4, chC cf cl zn 3), (r5, tlC cI tf), (h1, tmC tv)] ++ va_pl L (pf cJ kd pi bd af bo)) := hD
  refine W.widen (k := 2 * (0 + q_59)) (n := 11 * (0 + q_59)) (Nat.le_refl _) (Nat.le_refl _) ?_
  refine lv_aload_n hx hb dX8_probe_48 rfl (lv_at hl 0 rfl) ?_
  refine va_get (D := D) (ci := 8) (v := .ref h1) (C := RX8) (T := TX8) (N := 20) hx hb ha inlX8 hown hK hP 0 rfl rfl 17 (by decide) (ha _ kf_X8_28) (fun _ h9 => h9) rfl dX8_probe_49 ?_
  refine lv_iload_n hx hb dX8_probe_52 rfl (lv_at hl 2 rfl) ?_
  have hPc := hP.sub (ws' := [(h1, tmC tv)]) [13] rfl
  have hDc := hD.sub (ws' := [(h1, tmC tv)]) [13] (by decide) rfl
  have hFc := va_free (wc := [(h1, tmC tv)]) hD hS hA [13] rfl
  refine va_callv (va_runV (As := [.int n1]) (rest := []) ⟨hx, hb, hml, hown, ha⟩ (s_tset l D cI cJ cZ cO _ h1 tv n1) (cwV 1 ha (gaV kl_X8_209 km_X9_set ks_X9_set kz_X9 kd_X9_set) rfl rfl rfl (by decide +kernel) ⟨Nat.le_of_ble_eq_true rfl, Nat.le_of_ble_eq_true rfl⟩) ⟨pw_blind, va_recv hK hPc (ci := 9) (q0 := 0) rfl rfl, fun U hU hW => ⟨rfl, pw_start hU hW hPc hK hDc hN⟩⟩ rfl rfl hl.1 rfl (lv_room (Nat.le_of_ble_eq_true rfl)) dX8_probe_53 ⟨show 2 * (0 + q_59) + 0 ≤ 2 by omega, show 11 * (0 + q_59) + 0 ≤ 11 by omega⟩) hS (fun q _ h => hFc q h) hFc (fun u t H1 locs ht hvm hw hB hz1 hk1 hS => ?_)
  obtain ⟨tv, hX0, hP1, hK1, hD1⟩ := hB
  have hE := bd_at rfl hE
  have hE := bd_at hX0 hE
  rw [ht] at hP1
  obtain ⟨hP, hD⟩ := va_joinQ (wr := [(h0, snC n0 k0 g0 sv h1 h2 h7), (h2, boC h3 h5 bv), (h3, mkC h4), (h4, .inl (cJ, 4, .inr (.inl f))), (h5, mkC h6), (h6, .inl (cJ, 4, .inr (.inl g))), (h7, cuC cv), (r0, rdC ov (va_rf ol) r1 r2 r3 r4 r5), (r1, chC cf cl zn 0), (r2, chC cf cl zn 1), (r3, chC cf cl zn 2), (r4, chC cf cl zn 3), (r5, tlC cI tf)]) (w1 := [(h1, tmC tv)]) hP hD [13] [0, 1, 2, 3, 4, 5, 6, 7, 8, 9, 10, 11, 12] rfl rfl (by decide) (by decide) hk1 hFc hP1 hD1
  generalize H1 = H at hP hS ⊢
  have hP : va_P D vwCl ([(h0, snC n0 k0 g0 sv h1 h2 h7), (h2, boC h3 h5 bv), (h3, mkC h4), (h4, .inl (cJ, 4, .inr (.inl f))), (h5, mkC h6), (h6, .inl (cJ, 4, .inr (.inl g))), (h7, cuC cv), (r0, rdC ov (va_rf ol) r1 r2 r3 r4 r5), (r1, chC cf cl zn 0), (r2, chC cf cl zn 1), (r3, chC cf cl zn 2), (r4, chC cf cl zn 3), (r5, tlC cI tf), (h1, tmC tv)] ++ va_pl L (pf cJ kd pi bd af bo)) H := hP
  have hD : va_D A ([(h0, snC n0 k0 g0 sv h1 h2 h7), (h2, boC h3 h5 bv), (h3, mkC h4), (h4, .inl (cJ, 4, .inr (.inl f))), (h5, mkC h6), (h6, .inl (cJ, 4, .inr (.inl g))), (h7, cuC cv), (r0, rdC ov (va_rf ol) r1 r2 r3 r4 r5), (r1, chC cf cl zn 0), (r2, chC cf cl zn 1), (r3, chC cf cl zn 2), (r4, chC cf cl zn 3), (r5, tlC cI tf), (h1, tmC tv)] ++ va_pl L (pf cJ kd pi bd af bo)) := hD
  refine W.widen (k := 2 * (0 + q_59)) (n := 11 * (0 + q_59)) (Nat.le_refl _) (Nat.le_refl _) ?_
  refine W.know2 (fun hk1 hk2 => ?_)
  have hg0 : gr s.heap _ (0 + q_59) := ⟨hk1, hk2⟩
  refine W.widen (k := 2) (n := 11) (by omega) (by omega) ?_
  have hP9 : va_P D vwCl ([(r0, rdC ov (va_rf ol) r1 r2 r3 r4 r5), (r1, chC cf cl zn 0), (r2, chC cf cl zn 1), (r3, chC cf cl zn 2), (r4, chC cf cl zn 3), (r5, tlC cI tf), (h0, snC n0 k0 g0 sv h1 h2 h7), (h1, tmC tv), (h2, boC h3 h5 bv), (h3, mkC h4), (h4, .inl (cJ, 4, .inr (.inl f))), (h5, mkC h6), (h6, .inl (cJ, 4, .inr (.inl g))), (h7, cuC cv)] ++ va_pl L (pf cJ kd pi bd af bo)) _ := hP.part [7, 8, 9, 10, 11, 12, 0, 13, 1, 2, 3, 4, 5, 6] rfl
  have hD9 : va_D A ([(r0, rdC ov (va_rf ol) r1 r2 r3 r4 r5), (r1, chC cf cl zn 0), (r2, chC cf cl zn 1), (r3, chC cf cl zn 2), (r4, chC cf cl zn 3), (r5, tlC cI tf), (h0, snC n0 k0 g0 sv h1 h2 h7), (h1, tmC tv), (h2, boC h3 h5 bv), (h3, mkC h4), (h4, .inl (cJ, 4, .inr (.inl f))), (h5, mkC h6), (h6, .inl (cJ, 4, .inr (.inl g))), (h7, cuC cv)] ++ va_pl L (pf cJ kd pi bd af bo)) := hD.part [7, 8, 9, 10, 11, 12, 0, 13, 1, 2, 3, 4, 5, 6] (by decide) rfl
  exact W.vret hx hb hr (fun t ht hW => ⟨⟨(), rfl, trivial, ⟨sv, tv, bv, cv, f, g, ov, tf, ol, cf, cl, zn, xl, tag, L, kd, pi, bd, af, bo, (0 + q_59), go, gq, ⟨⟨hR, hPB, hZ, hT, by rw [ht]; exact hg0, by omega, hLK, hQ⟩, ⟨hG, hJ⟩, (by rw [← hRES, hE]), (by rw [← hRES, hE]), (by rw [← hRES, hE]), (by rw [← hRES, hE]), (by rw [← hRES, hE]), (by rw [← hRES, hE]), (by rw [← hRES, hE]), (by rw [← hRES, hE]), (by rw [← hRES, hE]), (by rw [← hRES, hE])⟩, by rw [ht]; exact hP9, va_K.moved hW.alike hK, hD9⟩⟩, hS.F ht⟩) hS.2.2 dX8_probe_56
