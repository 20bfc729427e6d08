set_option maxRecDepth 100000 in
def xc_sendMay_2 (n0 : Int32) (k0 : Int32) (g0 : Int32) (n1 : Int32) : Nat → (Nat → Int32) → (Nat → Int32) → (Nat → Int32) → (Nat → Int32) → (Nat → Int32) → (Nat → Int64) → (Nat → Int64) → (Nat → Int32) → (Option S4) → (List S3) → Int32 → (Nat → Int32) × (Nat → Int32) × (Nat → Int32) × (Nat → Int32) × (Nat → Int64) × (Nat → Int64) × (Nat → Int32) × (Nat → Int32) × (Option S4) × (List S3)
  | 0, ov, tf, sv, tv, bv, f, g, cv, go, gq, i3 => (sv, tv, bv, cv, f, g, ov, tf, go, gq)
  | fu + 1, ov, tf, sv, tv, bv, f, g, cv, go, gq, i3 => (if (100000 : Int32) ≤ i3 then bd (sv 9) (fun v1 => (if v1 = (0 : Int32) then bd (sv 4) (fun v2 => bd (sv 3) (fun v3 => (if v2 = v3 then bd (sv 4) (fun v4 => (if g0 ≤ v4 then (sv, tv, bv, cv, f, g, ov, tf, go, gq) else bd (xc_tsetIf tv n1) (fun t5 => bd (t5) (fun tv => (sv, tv, bv, cv, f, g, ov, tf, go, gq))))) else (sv, tv, bv, cv, f, g, ov, tf, go, gq)))) else (sv, tv, bv, cv, f, g, ov, tf, go, gq))) else bd (xc_next n0 k0 g0 sv tv bv cv f g) (fun t6 => bd (t6.1) (fun sv => bd (t6.2.1) (fun tv => bd (t6.2.2.1) (fun bv => bd (t6.2.2.2.1) (fun cv => bd (t6.2.2.2.2.1) (fun f => bd (t6.2.2.2.2.2.1) (fun g => bd (t6.2.2.2.2.2.2) (fun v7 => (if v7 = ((-1) : Int32) then bd (sv 9) (fun v14 => (if v14 = (0 : Int32) then bd (sv 4) (fun v15 => bd (sv 3) (fun v16 => (if v15 = v16 then bd (sv 4) (fun v17 => (if g0 ≤ v17 then (sv, tv, bv, cv, f, g, ov, tf, go, gq) else bd (xc_tsetIf tv n1) (fun t18 => bd (t18) (fun tv => (sv, tv, bv, cv, f, g, ov, tf, go, gq))))) else (sv, tv, bv, cv, f, g, ov, tf, go, gq)))) else (sv, tv, bv, cv, f, g, ov, tf, go, gq))) else bd (xc_transmit ov go gq tf n0 k0 g0 sv tv bv cv f g v7 n1) (fun t8 => bd (t8.1) (fun sv => bd (t8.2.1) (fun tv => bd (t8.2.2.1) (fun bv => bd (t8.2.2.2.1) (fun cv => bd (t8.2.2.2.2.1) (fun f => bd (t8.2.2.2.2.2.1) (fun g => bd (t8.2.2.2.2.2.2.1) (fun ov => bd (t8.2.2.2.2.2.2.2.1) (fun tf => bd (t8.2.2.2.2.2.2.2.2.1) (fun go => bd (t8.2.2.2.2.2.2.2.2.2) (fun gq => bd (sv 4) (fun v9 => (if v7 = v9 then bd (sv 4) (fun v11 => bd (v11 + (1 : Int32)) (fun v12 => bd (upd sv 4 v12) (fun sv => bd (i3 + 1) (fun v13 => xc_sendMay_2 n0 k0 g0 n1 fu ov tf sv tv bv f g cv go gq v13)))) else bd (i3 + 1) (fun v10 => xc_sendMay_2 n0 k0 g0 n1 fu ov tf sv tv bv f g cv go gq v10))))))))))))))))))))))))
set_option maxRecDepth 100000 in
def xc_sendMay (ov : Nat → Int32) (go : Option S4) (gq : List S3) (tf : Nat → Int32) (n0 : Int32) (k0 : Int32) (g0 : Int32) (sv : Nat → Int32) (tv : Nat → Int32) (bv : Nat → Int32) (cv : Nat → Int32) (f : Nat → Int64) (g : Nat → Int64) (n1 : Int32) : (Nat → Int32) × (Nat → Int32) × (Nat → Int32) × (Nat → Int32) × (Nat → Int64) × (Nat → Int64) × (Nat → Int32) × (Nat → Int32) × (Option S4) × (List S3) := xc_sendMay_2 n0 k0 g0 n1 (100000 + 1) ov tf sv tv bv f g cv go gq (0 : Int32)
set_option maxHeartbeats 4000000 in
set_option maxRecDepth 100000 in
theorem s_sendMay (l : Launch) (D : va_G) (cI cJ cZ cO : ClassId) (Hh : Heap) (r0 r1 r2 r3 r4 r5 : Nat) (ov : Nat → Int32) (ol : Option Nat) (cf cl : Nat → Option Nat) (zn : Nat → Int32) (xl : Nat → List Nat) (tag : Nat → Nat) (L : List Nat) (kd : Nat → Bool) (pi : Nat → Nat → Int32) (bd : Nat → Nat) (af : Nat → Option Nat) (bo : Nat → Nat → Int64) (go : Option S4) (gq : List S3) (gw : List S4) (ga : List A6) (tf : Nat → Int32) (h0 h1 h2 h3 h4 h5 h6 h7 : Nat) (n0 k0 g0 : Int32) (sv tv bv cv : Nat → Int32) (f g : Nat → Int64) (n1 : Int32) (hR : RI L kd af tag cf cl xl ol) (hPB : PB L kd pi bd) (hZ : ZN zn xl) (hG : GG xl pi bd bo ol go gq gw ga) (hJ : JB L kd bd) (hT : 0 ≤ ov 10) (hLK : LK ov) (hq0 : (xl 0).length ≤ 100) (htot : tot xl ol ≤ 12000) (hcap : 102 + (xl 1).length + (xl 2).length ≤ 12000) : Met l yX8_sendWhatMay (wa yX8_sendWhatMay cX8_sendWhatMay 5 none) ({ frames := 5, cells := 24010, slots := 132110, locals := 108 }) (va_Pc [.ref h0, .ref r0, .int n1] (pw_h D cI cJ cZ cO Hh ([(r0, rdC ov (va_rf ol) r1 r2 r3 r4 r5), (r1, chC cf cl zn 0), (r2, chC cf cl zn 1), (r3, chC cf cl zn 2), (r4, chC cf cl zn 3), (r5, tlC cI tf), (h0, snC n0 k0 g0 sv h1 h2 h7), (h1, tmC tv), (h2, boC h3 h5 bv), (h3, mkC h4), (h4, .inl (cJ, 4, .inr (.inl f))), (h5, mkC h6), (h6, .inl (cJ, 4, .inr (.inl g))), (h7, cuC cv)] ++ va_pl L (pf cJ kd pi bd af bo)))) (va_Qv (fun (_ : Unit) => True) (fun (_ : Unit) (t : State) => ∃ (sv2 tv2 bv2 cv2 : Nat → Int32) (f2 g2 : Nat → Int64) (ov2 tf2 : Nat → Int32) (ol2 : Option Nat) (cf2 cl2 : Nat → Option Nat) (zn2 : Nat → Int32) (xl2 : Nat → List Nat) (tag2 : Nat → Nat) (L2 : List Nat) (kd2 : Nat → Bool) (pi2 : Nat → Nat → Int32) (bd2 : Nat → Nat) (af2 : Nat → Option Nat) (bo2 : Nat → Nat → Int64) (b2 : Nat) (go2 : Option S4) (gq2 : List S3), ((RI L2 kd2 af2 tag2 cf2 cl2 xl2 ol2 ∧ PB L2 kd2 pi2 bd2 ∧ ZN zn2 xl2 ∧ 0 ≤ ov2 10 ∧ gr Hh t.heap b2 ∧ b2 ≤ 12000 ∧ LK ov2 ∧ QQ L kd tag xl pi ol L2 kd2 tag2 xl2 pi2 ol2 [] [] b2 0) ∧ (GG xl2 pi2 bd2 bo2 ol2 go2 gq2 gw ga ∧ JB L2 kd2 bd2) ∧ sv2 = (xc_sendMay ov go gq tf n0 k0 g0 sv tv bv cv f g n1).1 ∧ tv2 = (xc_sendMay ov go gq tf n0 k0 g0 sv tv bv cv f g n1).2.1 ∧ bv2 = (xc_sendMay ov go gq tf n0 k0 g0 sv tv bv cv f g n1).2.2.1 ∧ cv2 = (xc_sendMay ov go gq tf n0 k0 g0 sv tv bv cv f g n1).2.2.2.1 ∧ f2 = (xc_sendMay ov go gq tf n0 k0 g0 sv tv bv cv f g n1).2.2.2.2.1 ∧ g2 = (xc_sendMay ov go gq tf n0 k0 g0 sv tv bv cv f g n1).2.2.2.2.2.1 ∧ ov2 = (xc_sendMay ov go gq tf n0 k0 g0 sv tv bv cv f g n1).2.2.2.2.2.2.1 ∧ tf2 = (xc_sendMay ov go gq tf n0 k0 g0 sv tv bv cv f g n1).2.2.2.2.2.2.2.1 ∧ go2 = (xc_sendMay ov go gq tf n0 k0 g0 sv tv bv cv f g n1).2.2.2.2.2.2.2.2.1 ∧ gq2 = (xc_sendMay ov go gq tf n0 k0 g0 sv tv bv cv f g n1).2.2.2.2.2.2.2.2.2) ∧ pw_t D cI cJ cZ cO (va_A ([(r0, rdC ov (va_rf ol) r1 r2 r3 r4 r5), (r1, chC cf cl zn 0), (r2, chC cf cl zn 1), (r3, chC cf cl zn 2), (r4, chC cf cl zn 3), (r5, tlC cI tf), (h0, snC n0 k0 g0 sv h1 h2 h7), (h1, tmC tv), (h2, boC h3 h5 bv), (h3, mkC h4), (h4, .inl (cJ, 4, .inr (.inl f))), (h5, mkC h6), (h6, .inl (cJ, 4, .inr (.inl g))), (h7, cuC cv)] ++ va_pl L (pf cJ kd pi bd af bo)) Hh.size) ([(r0, rdC ov2 (va_rf ol2) r1 r2 r3 r4 r5), (r1, chC cf2 cl2 zn2 0), (r2, chC cf2 cl2 zn2 1), (r3, chC cf2 cl2 zn2 2), (r4, chC cf2 cl2 zn2 3), (r5, tlC cI tf2), (h0, snC n0 k0 g0 sv2 h1 h2 h7), (h1, tmC tv2), (h2, boC h3 h5 bv2), (h3, mkC h4), (h4, .inl (cJ, 4, .inr (.inl f2))), (h5, mkC h6), (h6, .inl (cJ, 4, .inr (.inl g2))), (h7, cuC cv2)] ++ va_pl L2 (pf cJ kd2 pi2 bd2 af2 bo2)) t) (va_A ([(r0, rdC ov (va_rf ol) r1 r2 r3 r4 r5), (r1, chC cf cl zn 0), (r2, chC cf cl zn 1), (r3, chC cf cl zn 2), (r4, chC cf cl zn 3), (r5, tlC cI tf), (h0, snC n0 k0 g0 sv h1 h2 h7), (h1, tmC tv), (h2, boC h3 h5 bv), (h3, mkC h4), (h4, .inl (cJ, 4, .inr (.inl f))), (h5, mkC h6), (h6, .inl (cJ, 4, .inr (.inl g))), (h7, cuC cv)] ++ va_pl L (pf cJ kd pi bd af bo)) Hh.size)) 24010 132110 (va_A ([(r0, rdC ov (va_rf ol) r1 r2 r3 r4 r5), (r1, chC cf cl zn 0), (r2, chC cf cl zn 1), (r3, chC cf cl zn 2), (r4, chC cf cl zn 3), (r5, tlC cI tf), (h0, snC n0 k0 g0 sv h1 h2 h7), (h1, tmC tv), (h2, boC h3 h5 bv), (h3, mkC h4), (h4, .inl (cJ, 4, .inr (.inl f))), (h5, mkC h6), (h6, .inl (cJ, 4, .inr (.inl g))), (h7, cuC cv)] ++ va_pl L (pf cJ kd pi bd af bo)) Hh.size) := by
  refine Met.ofW (cc := cX8_sendWhatMay) (maxL := 5) (ret := none) (by decide) rfl ?_
  intro p e s m args below meth c s₁ B hml hv
  obtain ⟨rfl, hsz, hP, hK, hD0, hN⟩ := hv
  have hx := B.exec
  have hb := B.bytes
  have hr := B.returns
  have hts := atoms_spec (ws := (wa yX8_sendWhatMay cX8_sendWhatMay 5 none)) B.pre
  have ha : ∀ w ∈ wsL_law, w.before _ s = true := fun w h => hts w (List.mem_cons_of_mem _ h)
  have hown : s.vm.findClass RX8 = some m.cls := findClass_of_methodNamed B.named
  have hlocks := B.notSynchronized
  subst hsz
  have hD := hD0.self (sz := s.heap.size)
  generalize hAe : va_A ([(r0, rdC ov (va_rf ol) r1 r2 r3 r4 r5), (r1, chC cf cl zn 0), (r2, chC cf cl zn 1), (r3, chC cf cl zn 2), (r4, chC cf cl zn 3), (r5, tlC cI tf), (h0, snC n0 k0 g0 sv h1 h2 h7), (h1, tmC tv), (h2, boC h3 h5 bv), (h3, mkC h4), (h4, .inl (cJ, 4, .inr (.inl f))), (h5, mkC h6), (h6, .inl (cJ, 4, .inr (.inl g))), (h7, cuC cv)] ++ va_pl L (pf cJ kd pi bd af bo)) s.heap.size = A at hD ⊢
  have hA : ∀ q : Nat, s.heap.size ≤ q → A q := fun q h => by rw [← hAe]; exact Or.inr h
  have hS : va_S A s.heap s.heap [] := va_S.rf
  have hP : va_P D vwCl ([(r0, rdC ov (va_rf ol) r1 r2 r3 r4 r5), (r1, chC cf cl zn 0), (r2, chC cf cl zn 1), (r3, chC cf cl zn 2), (r4, chC cf cl zn 3), (r5, tlC cI tf), (h0, snC n0 k0 g0 sv h1 h2 h7), (h1, tmC tv), (h2, boC h3 h5 bv), (h3, mkC h4), (h4, .inl (cJ, 4, .inr (.inl f))), (h5, mkC h6), (h6, .inl (cJ, 4, .inr (.inl g))), (h7, cuC cv)] ++ va_pl L (pf cJ kd pi bd af bo)) s.heap := hP
  have hl := lv_entry ([.ref h0, .ref r0, .int n1]) (n := 5) (Nat.le_of_ble_eq_true rfl)
  rw [lg_entry_eq]
  generalize (lg_sl ([.ref h0, .ref r0, .int n1]) ++ List.replicate (5 - (lg_sl ([.ref h0, .ref r0, .int n1])).length) Slot.unset).toArray = ls at hl ⊢
  have hl : lv_has ls 5 [(0, .ref h0), (1, .ref r0), (2, .int n1)] := hl
  obtain ⟨QP, hQP⟩ : ∃ y : State → Prop, y = (MQ below (va_Qv (fun (_ : Unit) => True) (fun (_ : Unit) (t : State) => ∃ (sv2 tv2 bv2 cv2 : Nat → Int32) (f2 g2 : Nat → Int64) (ov2 tf2 : Nat → Int32) (ol2 : Option Nat) (cf2 cl2 : Nat → Option Nat) (zn2 : Nat → Int32) (xl2 : Nat → List Nat) (tag2 : Nat → Nat) (L2 : List Nat) (kd2 : Nat → Bool) (pi2 : Nat → Nat → Int32) (bd2 : Nat → Nat) (af2 : Nat → Option Nat) (bo2 : Nat → Nat → Int64) (b2 : Nat) (go2 : Option S4) (gq2 : List S3), ((RI L2 kd2 af2 tag2 cf2 cl2 xl2 ol2 ∧ PB L2 kd2 pi2 bd2 ∧ ZN zn2 xl2 ∧ 0 ≤ ov2 10 ∧ gr s.heap t.heap b2 ∧ b2 ≤ 12000 ∧ LK ov2 ∧ QQ L kd tag xl pi ol L2 kd2 tag2 xl2 pi2 ol2 [] [] b2 0) ∧ (GG xl2 pi2 bd2 bo2 ol2 go2 gq2 gw ga ∧ JB L2 kd2 bd2) ∧ sv2 = (xc_sendMay ov go gq tf n0 k0 g0 sv tv bv cv f g n1).1 ∧ tv2 = (xc_sendMay ov go gq tf n0 k0 g0 sv tv bv cv f g n1).2.1 ∧ bv2 = (xc_sendMay ov go gq tf n0 k0 g0 sv tv bv cv f g n1).2.2.1 ∧ cv2 = (xc_sendMay ov go gq tf n0 k0 g0 sv tv bv cv f g n1).2.2.2.1 ∧ f2 = (xc_sendMay ov go gq tf n0 k0 g0 sv tv bv cv f g n1).2.2.2.2.1 ∧ g2 = (xc_sendMay ov go gq tf n0 k0 g0 sv tv bv cv f g n1).2.2.2.2.2.1 ∧ ov2 = (xc_sendMay ov go gq tf n0 k0 g0 sv tv bv cv f g n1).2.2.2.2.2.2.1 ∧ tf2 = (xc_sendMay ov go gq tf n0 k0 g0 sv tv bv cv f g n1).2.2.2.2.2.2.2.1 ∧ go2 = (xc_sendMay ov go gq tf n0 k0 g0 sv tv bv cv f g n1).2.2.2.2.2.2.2.2.1 ∧ gq2 = (xc_sendMay ov go gq tf n0 k0 g0 sv tv bv cv f g n1).2.2.2.2.2.2.2.2.2) ∧ pw_t D cI cJ cZ cO A ([(r0, rdC ov2 (va_rf ol2) r1 r2 r3 r4 r5), (r1, chC cf2 cl2 zn2 0), (r2, chC cf2 cl2 zn2 1), (r3, chC cf2 cl2 zn2 2), (r4, chC cf2 cl2 zn2 3), (r5, tlC cI tf2), (h0, snC n0 k0 g0 sv2 h1 h2 h7), (h1, tmC tv2), (h2, boC h3 h5 bv2), (h3, mkC h4), (h4, .inl (cJ, 4, .inr (.inl f2))), (h5, mkC h6), (h6, .inl (cJ, 4, .inr (.inl g2))), (h7, cuC cv2)] ++ va_pl L2 (pf cJ kd2 pi2 bd2 af2 bo2)) t) A) #[(.ref h0 : Value), (.ref r0 : Value), (.int n1 : Value)] s 24010 132110 A) := ⟨_, rfl⟩
  obtain ⟨RES, hRES⟩ : ∃ y, y = (xc_sendMay ov go gq tf n0 k0 g0 sv tv bv cv f g n1) := ⟨_, rfl⟩
  have hQ : QQ L kd tag xl pi ol L kd tag xl pi ol [] [] 0 0 := QQ_rf
  obtain ⟨QF, hQF⟩ : ∃ F : List Nat → (Nat → Bool) → (Nat → Nat) → (Nat → List Nat) → (Nat → Nat → Int32) → Option Nat → Nat → Prop, F = (fun L2 kd2 tag2 xl2 pi2 ol2 n => QQ L kd tag xl pi ol L2 kd2 tag2 xl2 pi2 ol2 [] [] n 0) := ⟨_, rfl⟩
  have hQB : ∀ L2 kd2 tag2 xl2 pi2 ol2 n, QF L2 kd2 tag2 xl2 pi2 ol2 n → n ≤ 12000 := fun _ _ _ _ _ _ _ h => by rw [hQF] at h; exact (QQ_b h hq0 htot hcap).1
  have hQT : ∀ L2 kd2 tag2 xl2 pi2 ol2 n L3 kd3 tag3 xl3 pi3 ol3 n3, QF L2 kd2 tag2 xl2 pi2 ol2 n → QQ L2 kd2 tag2 xl2 pi2 ol2 L3 kd3 tag3 xl3 pi3 ol3 [] [] n3 0 → QF L3 kd3 tag3 xl3 pi3 ol3 (n + n3) := fun _ _ _ _ _ _ _ _ _ _ _ _ _ _ h k => by rw [hQF] at h ⊢; exact QQ_trans h k
  have hQ1 : QF L kd tag xl pi ol 0 := by rw [hQF]; exact QQ_rf
  have hQE : ∀ L2 kd2 tag2 xl2 pi2 ol2 n, QF L2 kd2 tag2 xl2 pi2 ol2 n → QQ L kd tag xl pi ol L2 kd2 tag2 xl2 pi2 ol2 [] [] n 0 := fun _ _ _ _ _ _ _ h => by rw [hQF] at h; exact h
  clear hQ htot hcap
  clear hQF
  -- from the entry
  have hE := hRES
  unfold xc_sendMay at hE
  refine lv_iconst (v := 0) hx hb dX8_sendWhatMay_0 (by decide) ?_
  refine lv_istore_n (lv' := [(3, .int 0), (0, .ref h0), (1, .ref r0), (2, .int n1)]) hx hb dX8_sendWhatMay_1 rfl hl (by decide) rfl (fun ls hl => ?_)
  obtain ⟨QP, hQP⟩ : ∃ y : State → Prop, y = (MQ below (va_Qv (fun (_ : Unit) => True) (fun (_ : Unit) (t : State) => ∃ (sv2 tv2 bv2 cv2 : Nat → Int32) (f2 g2 : Nat → Int64) (ov2 tf2 : Nat → Int32) (ol2 : Option Nat) (cf2 cl2 : Nat → Option Nat) (zn2 : Nat → Int32) (xl2 : Nat → List Nat) (tag2 : Nat → Nat) (L2 : List Nat) (kd2 : Nat → Bool) (pi2 : Nat → Nat → Int32) (bd2 : Nat → Nat) (af2 : Nat → Option Nat) (bo2 : Nat → Nat → Int64) (b2 : Nat) (go2 : Option S4) (gq2 : List S3), ((RI L2 kd2 af2 tag2 cf2 cl2 xl2 ol2 ∧ PB L2 kd2 pi2 bd2 ∧ ZN zn2 xl2 ∧ 0 ≤ ov2 10 ∧ gr s.heap t.heap b2 ∧ b2 ≤ 12000 ∧ LK ov2 ∧ QQ L kd tag xl pi ol L2 kd2 tag2 xl2 pi2 ol2 [] [] b2 0) ∧ (GG xl2 pi2 bd2 bo2 ol2 go2 gq2 gw ga ∧ JB L2 kd2 bd2) ∧ sv2 = (xc_sendMay ov go gq tf n0 k0 g0 sv tv bv cv f g n1).1 ∧ tv2 = (xc_sendMay ov go gq tf n0 k0 g0 sv tv bv cv f g n1).2.1 ∧ bv2 = (xc_sendMay ov go gq tf n0 k0 g0 sv tv bv cv f g n1).2.2.1 ∧ cv2 = (xc_sendMay ov go gq tf n0 k0 g0 sv tv bv cv f g n1).2.2.2.1 ∧ f2 = (xc_sendMay ov go gq tf n0 k0 g0 sv tv bv cv f g n1).2.2.2.2.1 ∧ g2 = (xc_sendMay ov go gq tf n0 k0 g0 sv tv bv cv f g n1).2.2.2.2.2.1 ∧ ov2 = (xc_sendMay ov go gq tf n0 k0 g0 sv tv bv cv f g n1).2.2.2.2.2.2.1 ∧ tf2 = (xc_sendMay ov go gq tf n0 k0 g0 sv tv bv cv f g n1).2.2.2.2.2.2.2.1 ∧ go2 = (xc_sendMay ov go gq tf n0 k0 g0 sv tv bv cv f g n1).2.2.2.2.2.2.2.2.1 ∧ gq2 = (xc_sendMay ov go gq tf n0 k0 g0 sv tv bv cv f g n1).2.2.2.2.2.2.2.2.2) ∧ pw_t D cI cJ cZ cO A ([(r0, rdC ov2 (va_rf ol2) r1 r2 r3 r4 r5), (r1, chC cf2 cl2 zn2 0), (r2, chC cf2 cl2 zn2 1), (r3, chC cf2 cl2 zn2 2), (r4, chC cf2 cl2 zn2 3), (r5, tlC cI tf2), (h0, snC n0 k0 g0 sv2 h1 h2 h7), (h1, tmC tv2), (h2, boC h3 h5 bv2), (h3, mkC h4), (h4, .inl (cJ, 4, .inr (.inl f2))), (h5, mkC h6), (h6, .inl (cJ, 4, .inr (.inl g2))), (h7, cuC cv2)] ++ va_pl L2 (pf cJ kd2 pi2 bd2 af2 bo2)) t) A) #[(.ref h0 : Value), (.ref r0 : Value), (.int n1 : Value)] s 24010 132110 A) := ⟨_, rfl⟩
  have loop : ∀ (k : Nat) (i3 : Int32) (b : Nat) (sv tv bv cv : Nat → Int32) (f g : Nat → Int64) (ov tf : Nat → Int32) (ol : Option Nat) (cf cl : Nat → Option Nat) (zn : Nat → Int32) (xl : Nat → List Nat) (tag : Nat → Nat) (L : List Nat) (kd : Nat → Bool) (pi : Nat → Nat → Int32) (bd : Nat → Nat) (af : Nat → Option Nat) (bo : Nat → Nat → Int64) (go : Option S4) (gq : List S3) (H : Heap) (locs : List Loc), va_P D vwCl ([(r0, rdC ov (va_rf ol) r1 r2 r3 r4 r5), (r1, chC cf cl zn 0), (r2, chC cf cl zn 1), (r3, chC cf cl zn 2), (r4, chC cf cl zn 3), (r5, tlC cI tf), (h0, snC n0 k0 g0 sv h1 h2 h7), (h1, tmC tv), (h2, boC h3 h5 bv), (h3, mkC h4), (h4, .inl (cJ, 4, .inr (.inl f))), (h5, mkC h6), (h6, .inl (cJ, 4, .inr (.inl g))), (h7, cuC cv)] ++ va_pl L (pf cJ kd pi bd af bo)) H → va_D A ([(r0, rdC ov (va_rf ol) r1 r2 r3 r4 r5), (r1, chC cf cl zn 0), (r2, chC cf cl zn 1), (r3, chC cf cl zn 2), (r4, chC cf cl zn 3), (r5, tlC cI tf), (h0, snC n0 k0 g0 sv h1 h2 h7), (h1, tmC tv), (h2, boC h3 h5 bv), (h3, mkC h4), (h4, .inl (cJ, 4, .inr (.inl f))), (h5, mkC h6), (h6, .inl (cJ, 4, .inr (.inl g))), (h7, cuC cv)] ++ va_pl L (pf cJ kd pi bd af bo)) → va_S A s.heap H locs → RI L kd af tag cf cl xl ol → PB L kd pi bd → ZN zn xl → GG xl pi bd bo ol go gq gw ga → JB L kd bd → 0 ≤ ov 10 → LK ov → (xl 0).length ≤ 100 → QF L kd tag xl pi ol b → gr s.heap H (0 + b) → ∀ (ls : Array Slot), lv_has ls 5 [(0, .ref h0), (1, .ref r0), (2, .int n1), (3, .int i3)] → RES = xc_sendMay_2 n0 k0 g0 n1 k ov tf sv tv bv f g cv go gq i3 → ((100000 : Int32).toInt - i3.toInt).toNat < k → W p l e ({ frames := 5, cells := 24010, slots := 132110, locals := 108 }) s m #[(.ref h0 : Value), (.ref r0 : Value), (.int n1 : Value)] below meth c H locs (2 * (0 + b)) (11 * (0 + b)) QP (F0 m 2 ls []) := by
    intro k
    induction k with
    | zero => intros; exact absurd ‹_ < 0› (Nat.not_lt_zero _)
    | succ k ih =>
      intro i3 b sv tv bv cv f g ov tf ol cf cl zn xl tag L kd pi bd af bo go gq H locs hP hD hS hR hPB hZ hG hJ hT hLK hq0 hQ1 hg0 ls hl hE hm
      rw [xc_sendMay_2] at hE
      have hB_b := hQB _ _ _ _ _ _ _ hQ1
      refine lv_iload_n hx hb dX8_sendWhatMay_2 rfl (lv_at hl 3 rfl) ?_
      refine lv_ldc (v := 100000) hx hb hown (ha _ kk_X8_126) dX8_sendWhatMay_3 ?_
      refine lv_icmp_ge (tgt := 56) hx hb dX8_sendWhatMay_5 (by decide) (fun c_64 => ?_) (fun c_64 => ?_)
      · have hE := hE.trans (if_pos c_64)
        refine lv_aload_n hx hb dX8_sendWhatMay_56 rfl (lv_at hl 0 rfl) ?_
        refine va_get (D := D) (ci := 8) (v := .int (sv 9)) (C := RX8) (T := TX8) (N := 20) hx hb ha inlX8 hown hK hP 6 rfl rfl 9 (by decide) (ha _ kf_X8_22) (fun _ h9 => h9) rfl dX8_sendWhatMay_57 ?_
        refine lv_topi (fun x_65 ex_65 => ?_)
        have hE := bd_at ex_65 hE
        refine lv_if_ne (tgt := 93) hx hb dX8_sendWhatMay_60 (by decide) (fun c_66 => ?_) (fun c_66 => ?_)
        · have hE := hE.trans (if_neg c_66)
          rw [hQP]
          refine W.know2 (fun hk1 hk2 => ?_)
          have hg0 : gr s.heap _ (0 + b) := ⟨hk1, hk2⟩
          have hQ9 := hQE _ _ _ _ _ _ _ hQ1
          rw [show b = 0 + b by omega] at hQ9
          refine W.widen (k := 24010) (n := 132110) (by omega) (by omega) ?_
          have hP9 : va_P D vwCl ([(r0, rdC ov (va_rf ol) r1 r2 r3 r4 r5), (r1, chC cf cl zn 0), (r2, chC cf cl zn 1), (r3, chC cf cl zn 2), (r4, chC cf cl zn 3), (r5, tlC cI tf), (h0, snC n0 k0 g0 sv h1 h2 h7), (h1, tmC tv), (h2, boC h3 h5 bv), (h3, mkC h4), (h4, .inl (cJ, 4, .inr (.inl f))), (h5, mkC h6), (h6, .inl (cJ, 4, .inr (.inl g))), (h7, cuC cv)] ++ va_pl L (pf cJ kd pi bd af bo)) _ := hP
          have hD9 : va_D A ([(r0, rdC ov (va_rf ol) r1 r2 r3 r4 r5), (r1, chC cf cl zn 0), (r2, chC cf cl zn 1), (r3, chC cf cl zn 2), (r4, chC cf cl zn 3), (r5, tlC cI tf), (h0, snC n0 k0 g0 sv h1 h2 h7), (h1, tmC tv), (h2, boC h3 h5 bv), (h3, mkC h4), (h4, .inl (cJ, 4, .inr (.inl f))), (h5, mkC h6), (h6, .inl (cJ, 4, .inr (.inl g))), (h7, cuC cv)] ++ va_pl L (pf cJ kd pi bd af bo)) := hD
          exact W.vret hx hb hr (fun t ht hW => ⟨⟨(), rfl, trivial, ⟨sv, tv, bv, cv, f, g, ov, tf, ol, cf, cl, zn, xl, tag, L, kd, pi, bd, af, bo, (0 + b), go, gq, ⟨⟨hR, hPB, hZ, hT, by rw [ht]; exact hg0, by omega, hLK, hQ9⟩, ⟨hG, hJ⟩, (by rw [← hRES, hE]), (by rw [← hRES, hE]), (by rw [← hRES, hE]), (by rw [← hRES, hE]), (by rw [← hRES, hE]), (by rw [← hRES, hE]), (by rw [← hRES, hE]), (by rw [← hRES, hE]), (by rw [← hRES, hE]), (by rw [← hRES, hE])⟩, by rw [ht]; exact hP9, va_K.moved hW.alike hK, hD9⟩⟩, hS.F ht⟩) hS.2.2 dX8_sendWhatMay_93
        · have hE := hE.trans (if_pos c_66)
          refine lv_aload_n hx hb dX8_sendWhatMay_63 rfl (lv_at hl 0 rfl) ?_
          refine va_get (D := D) (ci := 8) (v := .int (sv 4)) (C := RX8) (T := TX8) (N := 20) hx hb ha inlX8 hown hK hP 6 rfl rfl 4 (by decide) (ha _ kf_X8_65) (fun _ h9 => h9) rfl dX8_sendWhatMay_64 ?_
          refine lv_topi (fun x_67 ex_67 => ?_)
          have hE := bd_at ex_67 hE
          refine lv_aload_n hx hb dX8_sendWhatMay_67 rfl (lv_at hl 0 rfl) ?_
          refine va_get (D := D) (ci := 8) (v := .int (sv 3)) (C := RX8) (T := TX8) (N := 20) hx hb ha inlX8 hown hK hP 6 rfl rfl 3 (by decide) (ha _ kf_X8_59) (fun _ h9 => h9) rfl dX8_sendWhatMay_68 ?_
          refine lv_topi (fun x_68 ex_68 => ?_)
          have hE := bd_at ex_68 hE
          refine lv_icmp_ne (tgt := 93) hx hb dX8_sendWhatMay_71 (by decide) (fun c_69 => ?_) (fun c_69 => ?_)
          · have hE := hE.trans (if_neg c_69)
            rw [hQP]
            refine W.know2 (fun hk1 hk2 => ?_)
            have hg0 : gr s.heap _ (0 + b) := ⟨hk1, hk2⟩
            have hQ9 := hQE _ _ _ _ _ _ _ hQ1
            rw [show b = 0 + b by omega] at hQ9
            refine W.widen (k := 24010) (n := 132110) (by omega) (by omega) ?_
            have hP9 : va_P D vwCl ([(r0, rdC ov (va_rf ol) r1 r2 r3 r4 r5), (r1, chC cf cl zn 0), (r2, chC cf cl zn 1), (r3, chC cf cl zn 2), (r4, chC cf cl zn 3), (r5, tlC cI tf), (h0, snC n0 k0 g0 sv h1 h2 h7), (h1, tmC tv), (h2, boC h3 h5 bv), (h3, mkC h4), (h4, .inl (cJ, 4, .inr (.inl f))), (h5, mkC h6), (h6, .inl (cJ, 4, .inr (.inl g))), (h7, cuC cv)] ++ va_pl L (pf cJ kd pi bd af bo)) _ := hP
            have hD9 : va_D A ([(r0, rdC ov (va_rf ol) r1 r2 r3 r4 r5), (r1, chC cf cl zn 0), (r2, chC cf cl zn 1), (r3, chC cf cl zn 2), (r4, chC cf cl zn 3), (r5, tlC cI tf), (h0, snC n0 k0 g0 sv h1 h2 h7), (h1, tmC tv), (h2, boC h3 h5 bv), (h3, mkC h4), (h4, .inl (cJ, 4, .inr (.inl f))), (h5, mkC h6), (h6, .inl (cJ, 4, .inr (.inl g))), (h7, cuC cv)] ++ va_pl L (pf cJ kd pi bd af bo)) := hD
            exact W.vret hx hb hr (fun t ht hW => ⟨⟨(), rfl, trivial, ⟨sv, tv, bv, cv, f, g, ov, tf, ol, cf, cl, zn, xl, tag, L, kd, pi, bd, af, bo, (0 + b), go, gq, ⟨⟨hR, hPB, hZ, hT, by rw [ht]; exact hg0, by omega, hLK, hQ9⟩, ⟨hG, hJ⟩, (by rw [← hRES, hE]), (by rw [← hRES, hE]), (by rw [← hRES, hE]), (by rw [← hRES, hE]), (by rw [← hRES, hE]), (by rw [← hRES, hE]), (by rw [← hRES, hE]), (by rw [← hRES, hE]), (by rw [← hRES, hE]), (by rw [← hRES, hE])⟩, by rw [ht]; exact hP9, va_K.moved hW.alike hK, hD9⟩⟩, hS.F ht⟩) hS.2.2 dX8_sendWhatMay_93
          · have hE := hE.trans (if_pos c_69)
            refine lv_aload_n hx hb dX8_sendWhatMay_74 rfl (lv_at hl 0 rfl) ?_
            refine va_get (D := D) (ci := 8) (v := .int (sv 4)) (C := RX8) (T := TX8) (N := 20) hx hb ha inlX8 hown hK hP 6 rfl rfl 4 (by decide) (ha _ kf_X8_65) (fun _ h9 => h9) rfl dX8_sendWhatMay_75 ?_
            refine lv_topi (fun x_70 ex_70 => ?_)
            have hE := bd_at ex_70 hE
            refine lv_aload_n hx hb dX8_sendWhatMay_78 rfl (lv_at hl 0 rfl) ?_
            refine va_get (D := D) (ci := 8) (v := .int g0) (C := RX8) (T := TX8) (N := 20) hx hb ha inlX8 hown hK hP 6 rfl rfl 2 (by decide) (ha _ kf_X8_52) (fun _ h9 => h9) rfl dX8_sendWhatMay_79 ?_
            refine lv_icmp_ge (tgt := 93) hx hb dX8_sendWhatMay_82 (by decide) (fun c_71 => ?_) (fun c_71 => ?_)
            · have hE := hE.trans (if_pos c_71)
              rw [hQP]
              refine W.know2 (fun hk1 hk2 => ?_)
              have hg0 : gr s.heap _ (0 + b) := ⟨hk1, hk2⟩
              have hQ9 := hQE _ _ _ _ _ _ _ hQ1
              rw [show b = 0 + b by omega] at hQ9
              refine W.widen (k := 24010) (n := 132110) (by omega) (by omega) ?_
              have hP9 : va_P D vwCl ([(r0, rdC ov (va_rf ol) r1 r2 r3 r4 r5), (r1, chC cf cl zn 0), (r2, chC cf cl zn 1), (r3, chC cf cl zn 2), (r4, chC cf cl zn 3), (r5, tlC cI tf), (h0, snC n0 k0 g0 sv h1 h2 h7), (h1, tmC tv), (h2, boC h3 h5 bv), (h3, mkC h4), (h4, .inl (cJ, 4, .inr (.inl f))), (h5, mkC h6), (h6, .inl (cJ, 4, .inr (.inl g))), (h7, cuC cv)] ++ va_pl L (pf cJ kd pi bd af bo)) _ := hP
              have hD9 : va_D A ([(r0, rdC ov (va_rf ol) r1 r2 r3 r4 r5), (r1, chC cf cl zn 0), (r2, chC cf cl zn 1), (r3, chC cf cl zn 2), (r4, chC cf cl zn 3), (r5, tlC cI tf), (h0, snC n0 k0 g0 sv h1 h2 h7), (h1, tmC tv), (h2, boC h3 h5 bv), (h3, mkC h4), (h4, .inl (cJ, 4, .inr (.inl f))), (h5, mkC h6), (h6, .inl (cJ, 4, .inr (.inl g))), (h7, cuC cv)] ++ va_pl L (pf cJ kd pi bd af bo)) := hD
              exact W.vret hx hb hr (fun t ht hW => ⟨⟨(), rfl, trivial, ⟨sv, tv, bv, cv, f, g, ov, tf, ol, cf, cl, zn, xl, tag, L, kd, pi, bd, af, bo, (0 + b), go, gq, ⟨⟨hR, hPB, hZ, hT, by rw [ht]; exact hg0, by omega, hLK, hQ9⟩, ⟨hG, hJ⟩, (by rw [← hRES, hE]), (by rw [← hRES, hE]), (by rw [← hRES, hE]), (by rw [← hRES, hE]), (by rw [← hRES, hE]), (by rw [← hRES, hE]), (by rw [← hRES, hE]), (by rw [← hRES, hE]), (by rw [← hRES, hE]), (by rw [← hRES, hE])⟩, by rw [ht]; exact hP9, va_K.moved hW.alike hK, hD9⟩⟩, hS.F ht⟩) hS.2.2 dX8_sendWhatMay_93
            · have hE := hE.trans (if_neg c_71)
              refine lv_aload_n hx hb dX8_sendWhatMay_85 rfl (lv_at hl 0 rfl) ?_
              refine va_get (D := D) (ci := 8) (v := .ref h1) (C := RX8) (T := TX8) (N := 20) hx hb ha inlX8 hown hK hP 6 rfl rfl 17 (by decide) (ha _ kf_X8_28) (fun _ h9 => h9) rfl dX8_sendWhatMay_86 ?_
              refine lv_iload_n hx hb dX8_sendWhatMay_89 rfl (lv_at hl 2 rfl) ?_
              have hPc := hP.sub (ws' := [(h1, tmC tv)]) [7] rfl
              have hDc := hD.sub (ws' := [(h1, tmC tv)]) [7] (by decide) rfl
              have hFc := va_free (wc := [(h1, tmC tv)]) hD hS hA [7] rfl
              refine va_callv (va_runV (As := [.int n1]) (rest := []) ⟨hx, hb, hml, hown, ha⟩ (s_tsetIf l D cI cJ cZ cO _ h1 tv n1) (cwV 1 ha (gaV kl_X8_134 km_X9_setIfOff ks_X9_setIfOff kz_X9 kd_X9_setIfOff) rfl rfl rfl (by decide +kernel) ⟨Nat.le_of_ble_eq_true rfl, Nat.le_of_ble_eq_true rfl⟩) ⟨pw_blind, va_recv hK hPc (ci := 9) (q0 := 0) rfl rfl, fun U hU hW => ⟨rfl, pw_start hU hW hPc hK hDc hN⟩⟩ rfl rfl hl.1 rfl (lv_room (Nat.le_of_ble_eq_true rfl)) dX8_sendWhatMay_90 ⟨show 2 * (0 + b) + 0 ≤ 24010 by omega, show 11 * (0 + b) + 0 ≤ 132110 by omega⟩) hS (fun q _ h => hFc q h) hFc (fun u t H1 locs ht hvm hw hB hz1 hk1 hS => ?_)
              obtain ⟨tv, hX0, hP1, hK1, hD1⟩ := hB
              have hE := bd_at rfl hE
              have hE := bd_at hX0 hE
              rw [ht] at hP1
              obtain ⟨hP, hD⟩ := va_joinQ (wr := [(r0, rdC ov (va_rf ol) r1 r2 r3 r4 r5), (r1, chC cf cl zn 0), (r2, chC cf cl zn 1), (r3, chC cf cl zn 2), (r4, chC cf cl zn 3), (r5, tlC cI tf), (h0, snC n0 k0 g0 sv h1 h2 h7), (h2, boC h3 h5 bv), (h3, mkC h4), (h4, .inl (cJ, 4, .inr (.inl f))), (h5, mkC h6), (h6, .inl (cJ, 4, .inr (.inl g))), (h7, cuC cv)]) (w1 := [(h1, tmC tv)]) hP hD [7] [0, 1, 2, 3, 4, 5, 6, 8, 9, 10, 11, 12, 13] rfl rfl (by decide) (by decide) hk1 hFc hP1 hD1
              generalize H1 = H at hP hS ⊢
              have hP : va_P D vwCl ([(r0, rdC ov (va_rf ol) r1 r2 r3 r4 r5), (r1, chC cf cl zn 0), (r2, chC cf cl zn 1), (r3, chC cf cl zn 2), (r4, chC cf cl zn 3), (r5, tlC cI tf), (h0, snC n0 k0 g0 sv h1 h2 h7), (h2, boC h3 h5 bv), (h3, mkC h4), (h4, .inl (cJ, 4, .inr (.inl f))), (h5, mkC h6), (h6, .inl (cJ, 4, .inr (.inl g))), (h7, cuC cv), (h1, tmC tv)] ++ va_pl L (pf cJ kd pi bd af bo)) H := hP
              have hD : va_D A ([(r0, rdC ov (va_rf ol) r1 r2 r3 r4 r5), (r1, chC cf cl zn 0), (r2, chC cf cl zn 1), (r3, chC cf cl zn 2), (r4, chC cf cl zn 3), (r5, tlC cI tf), (h0, snC n0 k0 g0 sv h1 h2 h7), (h2, boC h3 h5 bv), (h3, mkC h4), (h4, .inl (cJ, 4, .inr (.inl f))), (h5, mkC h6), (h6, .inl (cJ, 4, .inr (.inl g))), (h7, cuC cv), (h1, tmC tv)] ++ va_pl L (pf cJ kd pi bd af bo)) := hD
              refine W.widen (k := 2 * (0 + b)) (n := 11 * (0 + b)) (Nat.le_refl _) (Nat.le_refl _) ?_
              rw [hQP]
              refine W.know2 (fun hk1 hk2 => ?_)
              have hg0 : gr s.heap _ (0 + b) := ⟨hk1, hk2⟩
              have hQ9 := hQE _ _ _ _ _ _ _ hQ1
              rw [show b = 0 + b by omega] at hQ9
              refine W.widen (k := 24010) (n := 132110) (by omega) (by omega) ?_
              have hP9 : va_P D vwCl ([(r0, rdC ov (va_rf ol) r1 r2 r3 r4 r5), (r1, chC cf cl zn 0), (r2, chC cf cl zn 1), (r3, chC cf cl zn 2), (r4, chC cf cl zn 3), (r5, tlC cI tf), (h0, snC n0 k0 g0 sv h1 h2 h7), (h1, tmC tv), (h2, boC h3 h5 bv), (h3, mkC h4), (h4, .inl (cJ, 4, .inr (.inl f))), (h5, mkC h6), (h6, .inl (cJ, 4, .inr (.inl g))), (h7, cuC cv)] ++ va_pl L (pf cJ kd pi bd af bo)) _ := hP.part [0, 1, 2, 3, 4, 5, 6, 13, 7, 8, 9, 10, 11, 12] rfl
              have hD9 : va_D A ([(r0, rdC ov (va_rf ol) r1 r2 r3 r4 r5), (r1, chC cf cl zn 0), (r2, chC cf cl zn 1), (r3, chC cf cl zn 2), (r4, chC cf cl zn 3), (r5, tlC cI tf), (h0, snC n0 k0 g0 sv h1 h2 h7), (h1, tmC tv), (h2, boC h3 h5 bv), (h3, mkC h4), (h4, .inl (cJ, 4, .inr (.inl f))), (h5, mkC h6), (h6, .inl (cJ, 4, .inr (.inl g))), (h7, cuC cv)] ++ va_pl L (pf cJ kd pi bd af bo)) := hD.part [0, 1, 2, 3, 4, 5, 6, 13, 7, 8, 9, 10, 11, 12] (by decide) rfl
              exact W.vret hx hb hr (fun t ht hW => ⟨⟨(), rfl, trivial, ⟨sv, tv, bv, cv, f, g, ov, tf, ol, cf, cl, zn, xl, tag, L, kd, pi, bd, af, bo, (0 + b), go, gq, ⟨⟨hR, hPB, hZ, hT, by rw [ht]; exact hg0, by omega, hLK, hQ9⟩, ⟨hG, hJ⟩, (by rw [← hRES, hE]), (by rw [← hRES, hE]), (by rw [← hRES, hE]), (by rw [← hRES, hE]), (by rw [← hRES, hE]), (by rw [← hRES, hE]), (by rw [← hRES, hE]), (by rw [← hRES, hE]), (by rw [← hRES, hE]), (by rw [← hRES, hE])⟩, by rw [ht]; exact hP9, va_K.moved hW.alike hK, hD9⟩⟩, hS.F ht⟩) hS.2.2 dX8_sendWhatMay_93
      · have hE := hE.trans (if_neg c_64)
        refine lv_aload_n hx hb dX8_sendWhatMay_8 rfl (lv_at hl 0 rfl) ?_
        have hPc := hP.sub (ws' := [(h0, snC n0 k0 g0 sv h1 h2 h7), (h1, tmC tv), (h2, boC h3 h5 bv), (h3, mkC h4), (h4, .inl (cJ, 4, .inr (.inl f))), (h5, mkC h6), (h6, .inl (cJ, 4, .inr (.inl g))), (h7, cuC cv)]) [6, 7, 8, 9, 10, 11, 12, 13] rfl
        have hDc := hD.sub (ws' := [(h0, snC n0 k0 g0 sv h1 h2 h7), (h1, tmC tv), (h2, boC h3 h5 bv), (h3, mkC h4), (h4, .inl (cJ, 4, .inr (.inl f))), (h5, mkC h6), (h6, .inl (cJ, 4, .inr (.inl g))), (h7, cuC cv)]) [6, 7, 8, 9, 10, 11, 12, 13] (by decide) rfl
        have hFc := va_free (wc := [(h0, snC n0 k0 g0 sv h1 h2 h7), (h1, tmC tv), (h2, boC h3 h5 bv), (h3, mkC h4), (h4, .inl (cJ, 4, .inr (.inl f))), (h5, mkC h6), (h6, .inl (cJ, 4, .inr (.inl g))), (h7, cuC cv)]) hD hS hA [6, 7, 8, 9, 10, 11, 12, 13] rfl
        refine va_calli (va_runV (As := []) (rest := []) ⟨hx, hb, hml, hown, ha⟩ (s_next l D cI cJ cZ cO _ h0 h1 h2 h3 h4 h5 h6 h7 n0 k0 g0 sv tv bv cv f g) (cwV 0 ha (gaV kl_X8_127 km_X8_nextToSend ks_X8_nextToSend kz_X8 kd_X8_nextToSend) rfl rfl rfl (by decide +kernel) ⟨Nat.le_of_ble_eq_true rfl, Nat.le_of_ble_eq_true rfl⟩) ⟨pw_blind, va_recv hK hPc (ci := 8) (q0 := 0) rfl rfl, fun U hU hW => ⟨rfl, pw_start hU hW hPc hK hDc hN⟩⟩ rfl rfl hl.1 rfl (lv_room (Nat.le_of_ble_eq_true rfl)) dX8_sendWhatMay_9 ⟨show 2 * (0 + b) + 0 ≤ 24010 by omega, show 11 * (0 + b) + 0 ≤ 132110 by omega⟩) hS (fun q _ h => hFc q h) hFc (fun r_75 u t H1 locs ht hvm hw hB hz1 hk1 hS => ?_)
        obtain ⟨sv, tv, bv, cv, f, g, ⟨hX0, hX1, hX2, hX3, hX4, hX5⟩, hP1, hK1, hD1⟩ := hB
        have hE := bd_at rfl hE
        have hE := bd_at hX0 hE
        have hE := bd_at hX1 hE
        have hE := bd_at hX2 hE
        have hE := bd_at hX3 hE
        have hE := bd_at hX4 hE
        have hE := bd_at hX5 hE
        have hE := bd_at hw.2 hE
        rw [ht] at hP1
        obtain ⟨hP, hD⟩ := va_joinQ (wr := [(r0, rdC ov (va_rf ol) r1 r2 r3 r4 r5), (r1, chC cf cl zn 0), (r2, chC cf cl zn 1), (r3, chC cf cl zn 2), (r4, chC cf cl zn 3), (r5, tlC cI tf)]) (w1 := [(h0, snC n0 k0 g0 sv h1 h2 h7), (h1, tmC tv), (h2, boC h3 h5 bv), (h3, mkC h4), (h4, .inl (cJ, 4, .inr (.inl f))), (h5, mkC h6), (h6, .inl (cJ, 4, .inr (.inl g))), (h7, cuC cv)]) hP hD [6, 7, 8, 9, 10, 11, 12, 13] [0, 1, 2, 3, 4, 5] rfl rfl (by decide) (by decide) hk1 hFc hP1 hD1
        generalize H1 = H at hP hS ⊢
        have hP : va_P D vwCl ([(r0, rdC ov (va_rf ol) r1 r2 r3 r4 r5), (r1, chC cf cl zn 0), (r2, chC cf cl zn 1), (r3, chC cf cl zn 2), (r4, chC cf cl zn 3), (r5, tlC cI tf), (h0, snC n0 k0 g0 sv h1 h2 h7), (h1, tmC tv), (h2, boC h3 h5 bv), (h3, mkC h4), (h4, .inl (cJ, 4, .inr (.inl f))), (h5, mkC h6), (h6, .inl (cJ, 4, .inr (.inl g))), (h7, cuC cv)] ++ va_pl L (pf cJ kd pi bd af bo)) H := hP
        have hD : va_D A ([(r0, rdC ov (va_rf ol) r1 r2 r3 r4 r5), (r1, chC cf cl zn 0), (r2, chC cf cl zn 1), (r3, chC cf cl zn 2), (r4, chC cf cl zn 3), (r5, tlC cI tf), (h0, snC n0 k0 g0 sv h1 h2 h7), (h1, tmC tv), (h2, boC h3 h5 bv), (h3, mkC h4), (h4, .inl (cJ, 4, .inr (.inl f))), (h5, mkC h6), (h6, .inl (cJ, 4, .inr (.inl g))), (h7, cuC cv)] ++ va_pl L (pf cJ kd pi bd af bo)) := hD
        refine W.widen (k := 2 * (0 + b)) (n := 11 * (0 + b)) (Nat.le_refl _) (Nat.le_refl _) ?_
        have hr_75 := hw.1
        refine lv_istore (lv' := [(4, .int r_75), (0, .ref h0), (1, .ref r0), (2, .int n1), (3, .int i3)]) hx hb dX8_sendWhatMay_12 hl (by decide) rfl (fun ls hl => ?_)
        refine lv_iload hx hb dX8_sendWhatMay_14 (lv_at hl 0 rfl) ?_
        refine lv_iconst (v := (-1)) hx hb dX8_sendWhatMay_16 (by decide) ?_
        refine lv_icmp_ne (tgt := 23) hx hb dX8_sendWhatMay_17 (by decide) (fun c_83 => ?_) (fun c_83 => ?_)
        · have hE := hE.trans (if_neg c_83)
          refine lv_aload_n hx hb dX8_sendWhatMay_23 rfl (lv_at hl 1 rfl) ?_
          refine lv_iload hx hb dX8_sendWhatMay_24 (lv_at hl 0 rfl) ?_
          refine lv_aload_n hx hb dX8_sendWhatMay_26 rfl (lv_at hl 2 rfl) ?_
          refine lv_iload_n hx hb dX8_sendWhatMay_27 rfl (lv_at hl 3 rfl) ?_
          have hPc := hP.part (X := [(r0, rdC ov (va_rf ol) r1 r2 r3 r4 r5), (r1, chC cf cl zn 0), (r2, chC cf cl zn 1), (r3, chC cf cl zn 2), (r4, chC cf cl zn 3), (r5, tlC cI tf), (h0, snC n0 k0 g0 sv h1 h2 h7), (h1, tmC tv), (h2, boC h3 h5 bv), (h3, mkC h4), (h4, .inl (cJ, 4, .inr (.inl f))), (h5, mkC h6), (h6, .inl (cJ, 4, .inr (.inl g))), (h7, cuC cv)]) (cx := [(r0, rdC ov (va_rf ol) r1 r2 r3 r4 r5), (r1, chC cf cl zn 0), (r2, chC cf cl zn 1), (r3, chC cf cl zn 2), (r4, chC cf cl zn 3), (r5, tlC cI tf), (h0, snC n0 k0 g0 sv h1 h2 h7), (h1, tmC tv), (h2, boC h3 h5 bv), (h3, mkC h4), (h4, .inl (cJ, 4, .inr (.inl f))), (h5, mkC h6), (h6, .inl (cJ, 4, .inr (.inl g))), (h7, cuC cv)]) (pl := va_pl L (pf cJ kd pi bd af bo)) [0, 1, 2, 3, 4, 5, 6, 7, 8, 9, 10, 11, 12, 13] rfl
          have hDc := hD.part (X := [(r0, rdC ov (va_rf ol) r1 r2 r3 r4 r5), (r1, chC cf cl zn 0), (r2, chC cf cl zn 1), (r3, chC cf cl zn 2), (r4, chC cf cl zn 3), (r5, tlC cI tf), (h0, snC n0 k0 g0 sv h1 h2 h7), (h1, tmC tv), (h2, boC h3 h5 bv), (h3, mkC h4), (h4, .inl (cJ, 4, .inr (.inl f))), (h5, mkC h6), (h6, .inl (cJ, 4, .inr (.inl g))), (h7, cuC cv)]) (cx := [(r0, rdC ov (va_rf ol) r1 r2 r3 r4 r5), (r1, chC cf cl zn 0), (r2, chC cf cl zn 1), (r3, chC cf cl zn 2), (r4, chC cf cl zn 3), (r5, tlC cI tf), (h0, snC n0 k0 g0 sv h1 h2 h7), (h1, tmC tv), (h2, boC h3 h5 bv), (h3, mkC h4), (h4, .inl (cJ, 4, .inr (.inl f))), (h5, mkC h6), (h6, .inl (cJ, 4, .inr (.inl g))), (h7, cuC cv)]) (pl := va_pl L (pf cJ kd pi bd af bo)) [0, 1, 2, 3, 4, 5, 6, 7, 8, 9, 10, 11, 12, 13] (by decide) rfl
          have hFc := va_freeP (X := [(r0, rdC ov (va_rf ol) r1 r2 r3 r4 r5), (r1, chC cf cl zn 0), (r2, chC cf cl zn 1), (r3, chC cf cl zn 2), (r4, chC cf cl zn 3), (r5, tlC cI tf), (h0, snC n0 k0 g0 sv h1 h2 h7), (h1, tmC tv), (h2, boC h3 h5 bv), (h3, mkC h4), (h4, .inl (cJ, 4, .inr (.inl f))), (h5, mkC h6), (h6, .inl (cJ, 4, .inr (.inl g))), (h7, cuC cv)]) (cx := [(r0, rdC ov (va_rf ol) r1 r2 r3 r4 r5), (r1, chC cf cl zn 0), (r2, chC cf cl zn 1), (r3, chC cf cl zn 2), (r4, chC cf cl zn 3), (r5, tlC cI tf), (h0, snC n0 k0 g0 sv h1 h2 h7), (h1, tmC tv), (h2, boC h3 h5 bv), (h3, mkC h4), (h4, .inl (cJ, 4, .inr (.inl f))), (h5, mkC h6), (h6, .inl (cJ, 4, .inr (.inl g))), (h7, cuC cv)]) (pl := va_pl L (pf cJ kd pi bd af bo)) hD hS hA [0, 1, 2, 3, 4, 5, 6, 7, 8, 9, 10, 11, 12, 13] rfl
          refine W.know2 (fun hka hkb => ?_)
          have hg0 : gr s.heap _ (0 + b) := ⟨hka, hkb⟩
          have hle0 := hS.1
          refine va_callv (va_runV (As := [.int r_75, .ref r0, .int n1]) (rest := []) ⟨hx, hb, hml, hown, ha⟩ (s_transmit l D cI cJ cZ cO _ r0 r1 r2 r3 r4 r5 ov ol cf cl zn xl tag L kd pi bd af bo go gq gw ga tf h0 h1 h2 h3 h4 h5 h6 h7 n0 k0 g0 sv tv bv cv f g r_75 n1 hR hPB hZ hG hJ hT hLK hq0) (cwV 3 ha (gaV kl_X8_131 km_X8_transmit ks_X8_transmit kz_X8 kd_X8_transmit) rfl rfl rfl (by decide +kernel) ⟨Nat.le_of_ble_eq_true rfl, Nat.le_of_ble_eq_true rfl⟩) ⟨pw_blindh, va_recv hK hPc (ci := 8) (q0 := 6) rfl rfl, fun U hU hW => ⟨rfl, pw_starth hU hW hPc hK hDc hN⟩⟩ rfl rfl hl.1 rfl (lv_room (Nat.le_of_ble_eq_true rfl)) dX8_sendWhatMay_28 ⟨show 2 * (0 + b) + 2 ≤ 24010 by omega, show 11 * (0 + b) + 11 ≤ 132110 by omega⟩) hS (fun q _ h => hFc q h) hFc (fun u t H1 locs ht hvm hw hB hz1 hk1 hS => ?_)
          obtain ⟨sv, tv, bv, cv, f, g, ov, tf, ol, cf, cl, zn, xl, tag, L, kd, pi, bd, af, bo, q_105, go, gq, ⟨hf_108, ⟨hG, hJ⟩, hX0, hX1, hX2, hX3, hX4, hX5, hX6, hX7, hX8, hX9⟩, hP1, hK1, hD1⟩ := hB
          have hE := bd_at rfl hE
          have hE := bd_at hX0 hE
          have hE := bd_at hX1 hE
          have hE := bd_at hX2 hE
          have hE := bd_at hX3 hE
          have hE := bd_at hX4 hE
          have hE := bd_at hX5 hE
          have hE := bd_at hX6 hE
          have hE := bd_at hX7 hE
          have hE := bd_at hX8 hE
          have hE := bd_at hX9 hE
          rw [ht] at hP1
          rw [ht] at hf_108
          obtain ⟨hP, hD⟩ := va_joinP (wr := []) (rx := [(r0, rdC ov (va_rf ol) r1 r2 r3 r4 r5), (r1, chC cf cl zn 0), (r2, chC cf cl zn 1), (r3, chC cf cl zn 2), (r4, chC cf cl zn 3), (r5, tlC cI tf), (h0, snC n0 k0 g0 sv h1 h2 h7), (h1, tmC tv), (h2, boC h3 h5 bv), (h3, mkC h4), (h4, .inl (cJ, 4, .inr (.inl f))), (h5, mkC h6), (h6, .inl (cJ, 4, .inr (.inl g))), (h7, cuC cv)]) (pl1 := va_pl L (pf cJ kd pi bd af bo)) hP hD [0, 1, 2, 3, 4, 5, 6, 7, 8, 9, 10, 11, 12, 13] [] rfl rfl (by decide) (by decide) hk1 hFc hP1 hD1
          generalize H1 = H at hP hS hf_108 ⊢
          have hP : va_P D vwCl ([(r0, rdC ov (va_rf ol) r1 r2 r3 r4 r5), (r1, chC cf cl zn 0), (r2, chC cf cl zn 1), (r3, chC cf cl zn 2), (r4, chC cf cl zn 3), (r5, tlC cI tf), (h0, snC n0 k0 g0 sv h1 h2 h7), (h1, tmC tv), (h2, boC h3 h5 bv), (h3, mkC h4), (h4, .inl (cJ, 4, .inr (.inl f))), (h5, mkC h6), (h6, .inl (cJ, 4, .inr (.inl g))), (h7, cuC cv)] ++ va_pl L (pf cJ kd pi bd af bo)) H := hP
          have hD : va_D A ([(r0, rdC ov (va_rf ol) r1 r2 r3 r4 r5), (r1, chC cf cl zn 0), (r2, chC cf cl zn 1), (r3, chC cf cl zn 2), (r4, chC cf cl zn 3), (r5, tlC cI tf), (h0, snC n0 k0 g0 sv h1 h2 h7), (h1, tmC tv), (h2, boC h3 h5 bv), (h3, mkC h4), (h4, .inl (cJ, 4, .inr (.inl f))), (h5, mkC h6), (h6, .inl (cJ, 4, .inr (.inl g))), (h7, cuC cv)] ++ va_pl L (pf cJ kd pi bd af bo)) := hD
          have hR := hf_108.1
          have hPB := hf_108.2.1
          have hZ := hf_108.2.2.1
          have hT := hf_108.2.2.2.1
          have hg0 := gr_trans hle0 hg0 hf_108.2.2.2.2.1
          have hLK := hf_108.2.2.2.2.2.2.1
          have hq0 := (hf_108.2.2.2.2.2.2.2.2.2.2.2 hq0).1
          have hQ1 := hQT _ _ _ _ _ _ _ _ _ _ _ _ _ _ hQ1 hf_108.2.2.2.2.2.2.2
          obtain ⟨b_109, hb_109⟩ : ∃ y, y = b + q_105 := ⟨_, rfl⟩
          rw [show 0 + b + q_105 = 0 + b_109 by omega] at hg0
          rw [← hb_109] at hQ1
          have hB_b_109 := hQB _ _ _ _ _ _ _ hQ1
          refine W.grown hg0 ?_
          refine lv_iload hx hb dX8_sendWhatMay_31 (lv_at hl 0 rfl) ?_
          refine lv_aload_n hx hb dX8_sendWhatMay_33 rfl (lv_at hl 1 rfl) ?_
          refine va_get (D := D) (ci := 8) (v := .int (sv 4)) (C := RX8) (T := TX8) (N := 20) hx hb ha inlX8 hown hK hP 6 rfl rfl 4 (by decide) (ha _ kf_X8_65) (fun _ h9 => h9) rfl dX8_sendWhatMay_34 ?_
          refine lv_topi (fun x_110 ex_110 => ?_)
          have hE := bd_at ex_110 hE
          refine lv_icmp_ne (tgt := 50) hx hb dX8_sendWhatMay_37 (by decide) (fun c_111 => ?_) (fun c_111 => ?_)
          · have hE := hE.trans (if_neg c_111)
            obtain ⟨x_112, ex_112⟩ : ∃ y : Int32, y = i3 + 1 := ⟨_, rfl⟩
            have hE := bd_at ex_112 hE
            refine lv_iinc (v := x_112) (lv' := [(3, .int x_112), (4, .int r_75), (0, .ref h0), (1, .ref r0), (2, .int n1)]) hx hb dX8_sendWhatMay_50 hl (k := 4) rfl (by rw [ex_112]; rfl) (by decide) rfl (fun ls hl => ?_)
            refine lv_goto (tgt := 2) hx hb dX8_sendWhatMay_53 (by decide) ?_
            have hP : va_P D vwCl ([(r0, rdC ov (va_rf ol) r1 r2 r3 r4 r5), (r1, chC cf cl zn 0), (r2, chC cf cl zn 1), (r3, chC cf cl zn 2), (r4, chC cf cl zn 3), (r5, tlC cI tf), (h0, snC n0 k0 g0 sv h1 h2 h7), (h1, tmC tv), (h2, boC h3 h5 bv), (h3, mkC h4), (h4, .inl (cJ, 4, .inr (.inl f))), (h5, mkC h6), (h6, .inl (cJ, 4, .inr (.inl g))), (h7, cuC cv)] ++ va_pl L (pf cJ kd pi bd af bo)) H := hP
            have hD : va_D A ([(r0, rdC ov (va_rf ol) r1 r2 r3 r4 r5), (r1, chC cf cl zn 0), (r2, chC cf cl zn 1), (r3, chC cf cl zn 2), (r4, chC cf cl zn 3), (r5, tlC cI tf), (h0, snC n0 k0 g0 sv h1 h2 h7), (h1, tmC tv), (h2, boC h3 h5 bv), (h3, mkC h4), (h4, .inl (cJ, 4, .inr (.inl f))), (h5, mkC h6), (h6, .inl (cJ, 4, .inr (.inl g))), (h7, cuC cv)] ++ va_pl L (pf cJ kd pi bd af bo)) := hD
            refine W.know2 (fun hka hkb => ?_)
            have hg0 : gr s.heap _ (0 + b_109) := ⟨hka, hkb⟩
            exact ih x_112 b_109 sv tv bv cv f g ov tf ol cf cl zn xl tag L kd pi bd af bo go gq _ _ hP hD hS hR hPB hZ hG hJ hT hLK hq0 hQ1 hg0 _ (lv_sub hl [2, 3, 4, 0] rfl) hE (Nat.lt_of_lt_of_le (sw_up (b := 100000) c_64 ex_112) (Nat.le_of_lt_succ hm))
          · have hE := hE.trans (if_pos c_111)
            refine lv_aload_n hx hb dX8_sendWhatMay_40 rfl (lv_at hl 1 rfl) ?_
            refine lv_dup hx hb dX8_sendWhatMay_41 rfl ?_
            refine va_get (D := D) (ci := 8) (v := .int (sv 4)) (C := RX8) (T := TX8) (N := 20) hx hb ha inlX8 hown hK hP 6 rfl rfl 4 (by decide) (ha _ kf_X8_65) (fun _ h9 => h9) rfl dX8_sendWhatMay_42 ?_
            refine lv_topi (fun x_113 ex_113 => ?_)
            have hE := bd_at ex_113 hE
            refine lv_iconst (v := 1) hx hb dX8_sendWhatMay_45 (by decide) ?_
            refine lv_iadd hx hb dX8_sendWhatMay_46 ?_
            refine lv_topi (fun x_114 ex_114 => ?_)
            have hE := bd_at ex_114 hE
            refine va_put (D := D) (ci := 8) (v := .int x_114) (ty := .int) (C := RX8) (T := TX8) (N := 20) hx hb ha inlX8 tyX8 tyX8_ok nmX8 hown hK hP hD hS 6 rfl rfl 4 (by decide) (ha _ kf_X8_65) (fun _ h9 => h9) rfl (by decide +kernel) rfl rfl (Nat.le_of_ble_eq_true rfl) dX8_sendWhatMay_47 (fun H locs hP hD hS => ?_)
            have hP : va_P D vwCl ([(r0, rdC ov (va_rf ol) r1 r2 r3 r4 r5), (r1, chC cf cl zn 0), (r2, chC cf cl zn 1), (r3, chC cf cl zn 2), (r4, chC cf cl zn 3), (r5, tlC cI tf), (h0, snC n0 k0 g0 (upd sv 4 x_114) h1 h2 h7), (h1, tmC tv), (h2, boC h3 h5 bv), (h3, mkC h4), (h4, .inl (cJ, 4, .inr (.inl f))), (h5, mkC h6), (h6, .inl (cJ, 4, .inr (.inl g))), (h7, cuC cv)] ++ va_pl L (pf cJ kd pi bd af bo)) H := hP
            have hD : va_D A ([(r0, rdC ov (va_rf ol) r1 r2 r3 r4 r5), (r1, chC cf cl zn 0), (r2, chC cf cl zn 1), (r3, chC cf cl zn 2), (r4, chC cf cl zn 3), (r5, tlC cI tf), (h0, snC n0 k0 g0 (upd sv 4 x_114) h1 h2 h7), (h1, tmC tv), (h2, boC h3 h5 bv), (h3, mkC h4), (h4, .inl (cJ, 4, .inr (.inl f))), (h5, mkC h6), (h6, .inl (cJ, 4, .inr (.inl g))), (h7, cuC cv)] ++ va_pl L (pf cJ kd pi bd af bo)) := hD
            generalize hg_115 : upd sv 4 x_114 = sv at hP hD
            have hE := bs_at hg_115 hE
            obtain ⟨x_116, ex_116⟩ : ∃ y : Int32, y = i3 + 1 := ⟨_, rfl⟩
            have hE := bd_at ex_116 hE
            refine lv_iinc (v := x_116) (lv' := [(3, .int x_116), (4, .int r_75), (0, .ref h0), (1, .ref r0), (2, .int n1)]) hx hb dX8_sendWhatMay_50 hl (k := 4) rfl (by rw [ex_116]; rfl) (by decide) rfl (fun ls hl => ?_)
            refine lv_goto (tgt := 2) hx hb dX8_sendWhatMay_53 (by decide) ?_
            have hP : va_P D vwCl ([(r0, rdC ov (va_rf ol) r1 r2 r3 r4 r5), (r1, chC cf cl zn 0), (r2, chC cf cl zn 1), (r3, chC cf cl zn 2), (r4, chC cf cl zn 3), (r5, tlC cI tf), (h0, snC n0 k0 g0 sv h1 h2 h7), (h1, tmC tv), (h2, boC h3 h5 bv), (h3, mkC h4), (h4, .inl (cJ, 4, .inr (.inl f))), (h5, mkC h6), (h6, .inl (cJ, 4, .inr (.inl g))), (h7, cuC cv)] ++ va_pl L (pf cJ kd pi bd af bo)) H := hP
            have hD : va_D A ([(r0, rdC ov (va_rf ol) r1 r2 r3 r4 r5), (r1, chC cf cl zn 0), (r2, chC cf cl zn 1), (r3, chC cf cl zn 2), (r4, chC cf cl zn 3), (r5, tlC cI tf), (h0, snC n0 k0 g0 sv h1 h2 h7), (h1, tmC tv), (h2, boC h3 h5 bv), (h3, mkC h4), (h4, .inl (cJ, 4, .inr (.inl f))), (h5, mkC h6), (h6, .inl (cJ, 4, .inr (.inl g))), (h7, cuC cv)] ++ va_pl L (pf cJ kd pi bd af bo)) := hD
            refine W.know2 (fun hka hkb => ?_)
            have hg0 : gr s.heap _ (0 + b_109) := ⟨hka, hkb⟩
            exact ih x_116 b_109 sv tv bv cv f g ov tf ol cf cl zn xl tag L kd pi bd af bo go gq _ _ hP hD hS hR hPB hZ hG hJ hT hLK hq0 hQ1 hg0 _ (lv_sub hl [2, 3, 4, 0] rfl) hE (Nat.lt_of_lt_of_le (sw_up (b := 100000) c_64 ex_116) (Nat.le_of_lt_succ hm))
        · have hE := hE.trans (if_pos c_83)
          refine lv_goto (tgt := 56) hx hb dX8_sendWhatMay_20 (by decide) ?_
          refine lv_aload_n hx hb dX8_sendWhatMay_56 rfl (lv_at hl 1 rfl) ?_
          refine va_get (D := D) (ci := 8) (v := .int (sv 9)) (C := RX8) (T := TX8) (N := 20) hx hb ha inlX8 hown hK hP 6 rfl rfl 9 (by decide) (ha _ kf_X8_22) (fun _ h9 => h9) rfl dX8_sendWhatMay_57 ?_
          refine lv_topi (fun x_117 ex_117 => ?_)
          have hE := bd_at ex_117 hE
          refine lv_if_ne (tgt := 93) hx hb dX8_sendWhatMay_60 (by decide) (fun c_118 => ?_) (fun c_118 => ?_)
          · have hE := hE.trans (if_neg c_118)
            rw [hQP]
            refine W.know2 (fun hk1 hk2 => ?_)
            have hg0 : gr s.heap _ (0 + b) := ⟨hk1, hk2⟩
            have hQ9 := hQE _ _ _ _ _ _ _ hQ1
            rw [show b = 0 + b by omega] at hQ9
            refine W.widen (k := 24010) (n := 132110) (by omega) (by omega) ?_
            have hP9 : va_P D vwCl ([(r0, rdC ov (va_rf ol) r1 r2 r3 r4 r5), (r1, chC cf cl zn 0), (r2, chC cf cl zn 1), (r3, chC cf cl zn 2), (r4, chC cf cl zn 3), (r5, tlC cI tf), (h0, snC n0 k0 g0 sv h1 h2 h7), (h1, tmC tv), (h2, boC h3 h5 bv), (h3, mkC h4), (h4, .inl (cJ, 4, .inr (.inl f))), (h5, mkC h6), (h6, .inl (cJ, 4, .inr (.inl g))), (h7, cuC cv)] ++ va_pl L (pf cJ kd pi bd af bo)) _ := hP
            have hD9 : va_D A ([(r0, rdC ov (va_rf ol) r1 r2 r3 r4 r5), (r1, chC cf cl zn 0), (r2, chC cf cl zn 1), (r3, chC cf cl zn 2), (r4, chC cf cl zn 3), (r5, tlC cI tf), (h0, snC n0 k0 g0 sv h1 h2 h7), (h1, tmC tv), (h2, boC h3 h5 bv), (h3, mkC h4), (h4, .inl (cJ, 4, .inr (.inl f))), (h5, mkC h6), (h6, .inl (cJ, 4, .inr (.inl g))), (h7, cuC cv)] ++ va_pl L (pf cJ kd pi bd af bo)) := hD
            exact W.vret hx hb hr (fun t ht hW => ⟨⟨(), rfl, trivial, ⟨sv, tv, bv, cv, f, g, ov, tf, ol, cf, cl, zn, xl, tag, L, kd, pi, bd, af, bo, (0 + b), go, gq, ⟨⟨hR, hPB, hZ, hT, by rw [ht]; exact hg0, by omega, hLK, hQ9⟩, ⟨hG, hJ⟩, (by rw [← hRES, hE]), (by rw [← hRES, hE]), (by rw [← hRES, hE]), (by rw [← hRES, hE]), (by rw [← hRES, hE]), (by rw [← hRES, hE]), (by rw [← hRES, hE]), (by rw [← hRES, hE]), (by rw [← hRES, hE]), (by rw [← hRES, hE])⟩, by rw [ht]; exact hP9, va_K.moved hW.alike hK, hD9⟩⟩, hS.F ht⟩) hS.2.2 dX8_sendWhatMay_93
          · have hE := hE.trans (if_pos c_118)
            refine lv_aload_n hx hb dX8_sendWhatMay_63 rfl (lv_at hl 1 rfl) ?_
            refine va_get (D := D) (ci := 8) (v := .int (sv 4)) (C := RX8) (T := TX8) (N := 20) hx hb ha inlX8 hown hK hP 6 rfl rfl 4 (by decide) (ha _ kf_X8_65) (fun _ h9 => h9) rfl dX8_sendWhatMay_64 ?_
            refine lv_topi (fun x_119 ex_119 => ?_)
            have hE := bd_at ex_119 hE
            refine lv_aload_n hx hb dX8_sendWhatMay_67 rfl (lv_at hl 1 rfl) ?_
            refine va_get (D := D) (ci := 8) (v := .int (sv 3)) (C := RX8) (T := TX8) (N := 20) hx hb ha inlX8 hown hK hP 6 rfl rfl 3 (by decide) (ha _ kf_X8_59) (fun _ h9 => h9) rfl dX8_sendWhatMay_68 ?_
            refine lv_topi (fun x_120 ex_120 => ?_)
            have hE := bd_at ex_120 hE
            refine lv_icmp_ne (tgt := 93) hx hb dX8_sendWhatMay_71 (by decide) (fun c_121 => ?_) (fun c_121 => ?_)
            · have hE := hE.trans (if_neg c_121)
              rw [hQP]
              refine W.know2 (fun hk1 hk2 => ?_)
              have hg0 : gr s.heap _ (0 + b) := ⟨hk1, hk2⟩
              have hQ9 := hQE _ _ _ _ _ _ _ hQ1
              rw [show b = 0 + b by omega] at hQ9
              refine W.widen (k := 24010) (n := 132110) (by omega) (by omega) ?_
              have hP9 : va_P D vwCl ([(r0, rdC ov (va_rf ol) r1 r2 r3 r4 r5), (r1, chC cf cl zn 0), (r2, chC cf cl zn 1), (r3, chC cf cl zn 2), (r4, chC cf cl zn 3), (r5, tlC cI tf), (h0, snC n0 k0 g0 sv h1 h2 h7), (h1, tmC tv), (h2, boC h3 h5 bv), (h3, mkC h4), (h4, .inl (cJ, 4, .inr (.inl f))), (h5, mkC h6), (h6, .inl (cJ, 4, .inr (.inl g))), (h7, cuC cv)] ++ va_pl L (pf cJ kd pi bd af bo)) _ := hP
              have hD9 : va_D A ([(r0, rdC ov (va_rf ol) r1 r2 r3 r4 r5), (r1, chC cf cl zn 0), (r2, chC cf cl zn 1), (r3, chC cf cl zn 2), (r4, chC cf cl zn 3), (r5, tlC cI tf), (h0, snC n0 k0 g0 sv h1 h2 h7), (h1, tmC tv), (h2, boC h3 h5 bv), (h3, mkC h4), (h4, .inl (cJ, 4, .inr (.inl f))), (h5, mkC h6), (h6, .inl (cJ, 4, .inr (.inl g))), (h7, cuC cv)] ++ va_pl L (pf cJ kd pi bd af bo)) := hD
              exact W.vret hx hb hr (fun t ht hW => ⟨⟨(), rfl, trivial, ⟨sv, tv, bv, cv, f, g, ov, tf, ol, cf, cl, zn, xl, tag, L, kd, pi, bd, af, bo, (0 + b), go, gq, ⟨⟨hR, hPB, hZ, hT, by rw [ht]; exact hg0, by omega, hLK, hQ9⟩, ⟨hG, hJ⟩, (by rw [← hRES, hE]), (by rw [← hRES, hE]), (by rw [← hRES, hE]), (by rw [← hRES, hE]), (by rw [← hRES, hE]), (by rw [← hRES, hE]), (by rw [← hRES, hE]), (by rw [← hRES, hE]), (by rw [← hRES, hE]), (by rw [← hRES, hE])⟩, by rw [ht]; exact hP9, va_K.moved hW.alike hK, hD9⟩⟩, hS.F ht⟩) hS.2.2 dX8_sendWhatMay_93
            · have hE := hE.trans (if_pos c_121)
              refine lv_aload_n hx hb dX8_sendWhatMay_74 rfl (lv_at hl 1 rfl) ?_
              refine va_get (D := D) (ci := 8) (v := .int (sv 4)) (C := RX8) (T := TX8) (N := 20) hx hb ha inlX8 hown hK hP 6 rfl rfl 4 (by decide) (ha _ kf_X8_65) (fun _ h9 => h9) rfl dX8_sendWhatMay_75 ?_
              refine lv_topi (fun x_122 ex_122 => ?_)
              have hE := bd_at ex_122 hE
              refine lv_aload_n hx hb dX8_sendWhatMay_78 rfl (lv_at hl 1 rfl) ?_
              refine va_get (D := D) (ci := 8) (v := .int g0) (C := RX8) (T := TX8) (N := 20) hx hb ha inlX8 hown hK hP 6 rfl rfl 2 (by decide) (ha _ kf_X8_52) (fun _ h9 => h9) rfl dX8_sendWhatMay_79 ?_
              refine lv_icmp_ge (tgt := 93) hx hb dX8_sendWhatMay_82 (by decide) (fun c_123 => ?_) (fun c_123 => ?_)
              · have hE := hE.trans (if_pos c_123)
                rw [hQP]
                refine W.know2 (fun hk1 hk2 => ?_)
                have hg0 : gr s.heap _ (0 + b) := ⟨hk1, hk2⟩
                have hQ9 := hQE _ _ _ _ _ _ _ hQ1
                rw [show b = 0 + b by omega] at hQ9
                refine W.widen (k := 24010) (n := 132110) (by omega) (by omega) ?_
                have hP9 : va_P D vwCl ([(r0, rdC ov (va_rf ol) r1 r2 r3 r4 r5), (r1, chC cf cl zn 0), (r2, chC cf cl zn 1), (r3, chC cf cl zn 2), (r4, chC cf cl zn 3), (r5, tlC cI tf), (h0, snC n0 k0 g0 sv h1 h2 h7), (h1, tmC tv), (h2, boC h3 h5 bv), (h3, mkC h4), (h4, .inl (cJ, 4, .inr (.inl f))), (h5, mkC h6), (h6, .inl (cJ, 4, .inr (.inl g))), (h7, cuC cv)] ++ va_pl L (pf cJ kd pi bd af bo)) _ := hP
                have hD9 : va_D A ([(r0, rdC ov (va_rf ol) r1 r2 r3 r4 r5), (r1, chC cf cl zn 0), (r2, chC cf cl zn 1), (r3, chC cf cl zn 2), (r4, chC cf cl zn 3), (r5, tlC cI tf), (h0, snC n0 k0 g0 sv h1 h2 h7), (h1, tmC tv), (h2, boC h3 h5 bv), (h3, mkC h4), (h4, .inl (cJ, 4, .inr (.inl f))), (h5, mkC h6), (h6, .inl (cJ, 4, .inr (.inl g))), (h7, cuC cv)] ++ va_pl L (pf cJ kd pi bd af bo)) := hD
                exact W.vret hx hb hr (fun t ht hW => ⟨⟨(), rfl, trivial, ⟨sv, tv, bv, cv, f, g, ov, tf, ol, cf, cl, zn, xl, tag, L, kd, pi, bd, af, bo, (0 + b), go, gq, ⟨⟨hR, hPB, hZ, hT, by rw [ht]; exact hg0, by omega, hLK, hQ9⟩, ⟨hG, hJ⟩, (by rw [← hRES, hE]), (by rw [← hRES, hE]), (by rw [← hRES, hE]), (by rw [← hRES, hE]), (by rw [← hRES, hE]), (by rw [← hRES, hE]), (by rw [← hRES, hE]), (by rw [← hRES, hE]), (by rw [← hRES, hE]), (by rw [← hRES, hE])⟩, by rw [ht]; exact hP9, va_K.moved hW.alike hK, hD9⟩⟩, hS.F ht⟩) hS.2.2 dX8_sendWhatMay_93
              · have hE := hE.trans (if_neg c_123)
                refine lv_aload_n hx hb dX8_sendWhatMay_85 rfl (lv_at hl 1 rfl) ?_
                refine va_get (D := D) (ci := 8) (v := .ref h1) (C := RX8) (T := TX8) (N := 20) hx hb ha inlX8 hown hK hP 6 rfl rfl 17 (by decide) (ha _ kf_X8_28) (fun _ h9 => h9) rfl dX8_sendWhatMay_86 ?_
                refine lv_iload_n hx hb dX8_sendWhatMay_89 rfl (lv_at hl 3 rfl) ?_
                have hPc := hP.sub (ws' := [(h1, tmC tv)]) [7] rfl
                have hDc := hD.sub (ws' := [(h1, tmC tv)]) [7] (by decide) rfl
                have hFc := va_free (wc := [(h1, tmC tv)]) hD hS hA [7] rfl
                refine va_callv (va_runV (As := [.int n1]) (rest := []) ⟨hx, hb, hml, hown, ha⟩ (s_tsetIf l D cI cJ cZ cO _ h1 tv n1) (cwV 1 ha (gaV kl_X8_134 km_X9_setIfOff ks_X9_setIfOff kz_X9 kd_X9_setIfOff) rfl rfl rfl (by decide +kernel) ⟨Nat.le_of_ble_eq_true rfl, Nat.le_of_ble_eq_true rfl⟩) ⟨pw_blind, va_recv hK hPc (ci := 9) (q0 := 0) rfl rfl, fun U hU hW => ⟨rfl, pw_start hU hW hPc hK hDc hN⟩⟩ rfl rfl hl.1 rfl (lv_room (Nat.le_of_ble_eq_true rfl)) dX8_sendWhatMay_90 ⟨show 2 * (0 + b) + 0 ≤ 24010 by omega, show 11 * (0 + b) + 0 ≤ 132110 by omega⟩) hS (fun q _ h => hFc q h) hFc (fun u t H1 locs ht hvm hw hB hz1 hk1 hS => ?_)
                obtain ⟨tv, hX0, hP1, hK1, hD1⟩ := hB
                have hE := bd_at rfl hE
                have hE := bd_at hX0 hE
                rw [ht] at hP1
                obtain ⟨hP, hD⟩ := va_joinQ (wr := [(r0, rdC ov (va_rf ol) r1 r2 r3 r4 r5), (r1, chC cf cl zn 0), (r2, chC cf cl zn 1), (r3, chC cf cl zn 2), (r4, chC cf cl zn 3), (r5, tlC cI tf), (h0, snC n0 k0 g0 sv h1 h2 h7), (h2, boC h3 h5 bv), (h3, mkC h4), (h4, .inl (cJ, 4, .inr (.inl f))), (h5, mkC h6), (h6, .inl (cJ, 4, .inr (.inl g))), (h7, cuC cv)]) (w1 := [(h1, tmC tv)]) hP hD [7] [0, 1, 2, 3, 4, 5, 6, 8, 9, 10, 11, 12, 13] rfl rfl (by decide) (by decide) hk1 hFc hP1 hD1
                generalize H1 = H at hP hS ⊢
                have hP : va_P D vwCl ([(r0, rdC ov (va_rf ol) r1 r2 r3 r4 r5), (r1, chC cf cl zn 0), (r2, chC cf cl zn 1), (r3, chC cf cl zn 2), (r4, chC cf cl zn 3), (r5, tlC cI tf), (h0, snC n0 k0 g0 sv h1 h2 h7), (h2, boC h3 h5 bv), (h3, mkC h4), (h4, .inl (cJ, 4, .inr (.inl f))), (h5, mkC h6), (h6, .inl (cJ, 4, .inr (.inl g))), (h7, cuC cv), (h1, tmC tv)] ++ va_pl L (pf cJ kd pi bd af bo)) H := hP
                have hD : va_D A ([(r0, rdC ov (va_rf ol) r1 r2 r3 r4 r5), (r1, chC cf cl zn 0), (r2, chC cf cl zn 1), (r3, chC cf cl zn 2), (r4, chC cf cl zn 3), (r5, tlC cI tf), (h0, snC n0 k0 g0 sv h1 h2 h7), (h2, boC h3 h5 bv), (h3, mkC h4), (h4, .inl (cJ, 4, .inr (.inl f))), (h5, mkC h6), (h6, .inl (cJ, 4, .inr (.inl g))), (h7, cuC cv), (h1, tmC tv)] ++ va_pl L (pf cJ kd pi bd af bo)) := hD
                refine W.widen (k := 2 * (0 + b)) (n := 11 * (0 + b)) (Nat.le_refl _) (Nat.le_refl _) ?_
                rw [hQP]
                refine W.know2 (fun hk1 hk2 => ?_)
                have hg0 : gr s.heap _ (0 + b) := ⟨hk1, hk2⟩
                have hQ9 := hQE _ _ _ _ _ _ _ hQ1
                rw [show b = 0 + b by omega] at hQ9
                refine W.widen (k := 24010) (n := 132110) (by omega) (by omega) ?_
                have hP9 : va_P D vwCl ([(r0, rdC ov (va_rf ol) r1 r2 r3 r4 r5), (r1, chC cf cl zn 0), (r2, chC cf cl zn 1), (r3, chC cf cl zn 2), (r4, chC cf cl zn 3), (r5, tlC cI tf), (h0, snC n0 k0 g0 sv h1 h2 h7), (h1, tmC tv), (h2, boC h3 h5 bv), (h3, mkC h4), (h4, .inl (cJ, 4, .inr (.inl f))), (h5, mkC h6), (h6, .inl (cJ, 4, .inr (.inl g))), (h7, cuC cv)] ++ va_pl L (pf cJ kd pi bd af bo)) _ := hP.part [0, 1, 2, 3, 4, 5, 6, 13, 7, 8, 9, 10, 11, 12] rfl
                have hD9 : va_D A ([(r0, rdC ov (va_rf ol) r1 r2 r3 r4 r5), (r1, chC cf cl zn 0), (r2, chC cf cl zn 1), (r3, chC cf cl zn 2), (r4, chC cf cl zn 3), (r5, tlC cI tf), (h0, snC n0 k0 g0 sv h1 h2 h7), (h1, tmC tv), (h2, boC h3 h5 bv), (h3, mkC h4), (h4, .inl (cJ, 4, .inr (.inl f))), (h5, mkC h6), (h6, .inl (cJ, 4, .inr (.inl g))), (h7, cuC cv)] ++ va_pl L (pf cJ kd pi bd af bo)) := hD.part [0, 1, 2, 3, 4, 5, 6, 13, 7, 8, 9, 10, 11, 12] (by decide) rfl
                exact W.vret hx hb hr (fun t ht hW => ⟨⟨(), rfl, trivial, ⟨sv, tv, bv, cv, f, g, ov, tf, ol, cf, cl, zn, xl, tag, L, kd, pi, bd, af, bo, (0 + b), go, gq, ⟨⟨hR, hPB, hZ, hT, by rw [ht]; exact hg0, by omega, hLK, hQ9⟩, ⟨hG, hJ⟩, (by rw [← hRES, hE]), (by rw [← hRES, hE]), (by rw [← hRES, hE]), (by rw [← hRES, hE]), (by rw [← hRES, hE]), (by rw [← hRES, hE]), (by rw [← hRES, hE]), (by rw [← hRES, hE]), (by rw [← hRES, hE]), (by rw [← hRES, hE])⟩, by rw [ht]; exact hP9, va_K.moved hW.alike hK, hD9⟩⟩, hS.F ht⟩) hS.2.2 dX8_sendWhatMay_93
  have hg9 : gr s.heap s.heap (0 + 0) := ⟨by omega, fun k hk => by omega⟩
  rw [hQP] at loop
  exact loop 100001 0 0 sv tv bv cv f g ov tf ol cf cl zn xl tag L kd pi bd af bo go gq _ _ hP hD hS hR hPB hZ hG hJ hT hLK hq0 hQ1 hg9 _ (lv_sub hl [1, 2, 3, 0] rfl) hE (by decide)
