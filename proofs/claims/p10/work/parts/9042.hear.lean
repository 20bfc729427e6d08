set_option maxRecDepth 100000 in
def xc_hear_140 (ov : Nat → Int32) (go : Option S4) (gq : List S3) (tf : Nat → Int32) (n0 : Int32) (k0 : Int32) (g0 : Int32) (pk : A6) (n1 : Int32) (sv : Nat → Int32) (tv : Nat → Int32) (bv : Nat → Int32) (f : Nat → Int64) (g : Nat → Int64) (cv : Nat → Int32) (i3 : Int32) (i4 : Int32) (i5 : Int32) (i6 : Int32) : (Nat → Int32) × (Nat → Int32) × (Nat → Int32) × (Nat → Int32) × (Nat → Int64) × (Nat → Int64) × (Nat → Int32) × (Nat → Int32) × (Option S4) × (List S3) := (if i6 ≤ (0 : Int32) then (if i5 = (0 : Int32) then bd (sv 9) (fun v1 => (if v1 ≤ (0 : Int32) then (sv, tv, bv, cv, f, g, ov, tf, go, gq) else bd (sv 4) (fun v2 => bd (sv 3) (fun v3 => (if v2 = v3 then bd (xc_tput tv) (fun t4 => bd (t4) (fun tv => (sv, tv, bv, cv, f, g, ov, tf, go, gq))) else (sv, tv, bv, cv, f, g, ov, tf, go, gq)))))) else bd (xc_dup n0 k0 g0 sv tv bv cv f g) (fun t5 => bd (t5.1) (fun sv => bd (t5.2.1) (fun tv => bd (t5.2.2.1) (fun bv => bd (t5.2.2.2.1) (fun cv => bd (t5.2.2.2.2.1) (fun f => bd (t5.2.2.2.2.2) (fun g => bd (xc_starts n0 k0 g0 sv tv bv cv f g) (fun t6 => bd (t6.1) (fun sv => bd (t6.2.1) (fun tv => bd (t6.2.2.1) (fun bv => bd (t6.2.2.2.1) (fun cv => bd (t6.2.2.2.2.1) (fun f => bd (t6.2.2.2.2.2.1) (fun g => bd (t6.2.2.2.2.2.2) (fun v7 => (if v7 = (0 : Int32) then (sv, tv, bv, cv, f, g, ov, tf, go, gq) else bd (xc_beginRec ov go gq tf n0 k0 g0 sv tv bv cv f g i3) (fun t8 => bd (t8.1) (fun sv => bd (t8.2.1) (fun tv => bd (t8.2.2.1) (fun bv => bd (t8.2.2.2.1) (fun cv => bd (t8.2.2.2.2.1) (fun f => bd (t8.2.2.2.2.2.1) (fun g => bd (t8.2.2.2.2.2.2.1) (fun ov => bd (t8.2.2.2.2.2.2.2.1) (fun tf => bd (t8.2.2.2.2.2.2.2.2.1) (fun go => bd (t8.2.2.2.2.2.2.2.2.2) (fun gq => (sv, tv, bv, cv, f, g, ov, tf, go, gq))))))))))))))))))))))))))))) else bd (upd sv 10 (0 : Int32)) (fun sv => bd (xc_sgrow n0 k0 g0 sv tv bv cv f g i3) (fun t9 => bd (t9.1) (fun sv => bd (t9.2.1) (fun tv => bd (t9.2.2.1) (fun bv => bd (t9.2.2.2.1) (fun cv => bd (t9.2.2.2.2.1) (fun f => bd (t9.2.2.2.2.2) (fun g => (sv, tv, bv, cv, f, g, ov, tf, go, gq))))))))))
set_option maxRecDepth 100000 in
def xc_hear_117 (ov : Nat → Int32) (go : Option S4) (gq : List S3) (tf : Nat → Int32) (n0 : Int32) (k0 : Int32) (g0 : Int32) (pk : A6) (n1 : Int32) (sv : Nat → Int32) (tv : Nat → Int32) (bv : Nat → Int32) (f : Nat → Int64) (g : Nat → Int64) (cv : Nat → Int32) (i3 : Int32) (i4 : Int32) (i5 : Int32) (i6 : Int32) : (Nat → Int32) × (Nat → Int32) × (Nat → Int32) × (Nat → Int32) × (Nat → Int64) × (Nat → Int64) × (Nat → Int32) × (Nat → Int32) × (Option S4) × (List S3) := (if i6 ≤ (0 : Int32) then xc_hear_140 ov go gq tf n0 k0 g0 pk n1 sv tv bv f g cv i3 i4 i5 i6 else bd (sv 11) (fun v10 => (if v10 = (0 : Int32) then xc_hear_140 ov go gq tf n0 k0 g0 pk n1 sv tv bv f g cv i3 i4 i5 i6 else bd (xc_hearRec ov go gq tf n0 k0 g0 sv tv bv cv f g i6 i3) (fun t11 => bd (t11.1) (fun sv => bd (t11.2.1) (fun tv => bd (t11.2.2.1) (fun bv => bd (t11.2.2.2.1) (fun cv => bd (t11.2.2.2.2.1) (fun f => bd (t11.2.2.2.2.2.1) (fun g => bd (t11.2.2.2.2.2.2.1) (fun ov => bd (t11.2.2.2.2.2.2.2.1) (fun tf => bd (t11.2.2.2.2.2.2.2.2.1) (fun go => bd (t11.2.2.2.2.2.2.2.2.2) (fun gq => (sv, tv, bv, cv, f, g, ov, tf, go, gq)))))))))))))))
set_option maxRecDepth 100000 in
def xc_hear_90 (ov : Nat → Int32) (go : Option S4) (gq : List S3) (tf : Nat → Int32) (n0 : Int32) (k0 : Int32) (g0 : Int32) (pk : A6) (n1 : Int32) (sv : Nat → Int32) (tv : Nat → Int32) (bv : Nat → Int32) (f : Nat → Int64) (g : Nat → Int64) (cv : Nat → Int32) (i3 : Int32) (i4 : Int32) (i5 : Int32) (i6 : Int32) : (Nat → Int32) × (Nat → Int32) × (Nat → Int32) × (Nat → Int32) × (Nat → Int64) × (Nat → Int64) × (Nat → Int32) × (Nat → Int32) × (Option S4) × (List S3) := (if k0 = (3 : Int32) then bd (sv 3) (fun v12 => bd (sv 5) (fun v13 => bd (xc_blearnP bv f g v12 v13 pk.2.2.2.2.2) (fun t14 => bd (t14.1) (fun bv => bd (t14.2.1) (fun f => bd (t14.2.2) (fun g => xc_hear_117 ov go gq tf n0 k0 g0 pk n1 sv tv bv f g cv i3 i4 i5 i6)))))) else xc_hear_117 ov go gq tf n0 k0 g0 pk n1 sv tv bv f g cv i3 i4 i5 i6)
set_option maxRecDepth 100000 in
def xc_hear_59 (ov : Nat → Int32) (go : Option S4) (gq : List S3) (tf : Nat → Int32) (n0 : Int32) (k0 : Int32) (g0 : Int32) (pk : A6) (n1 : Int32) (sv : Nat → Int32) (tv : Nat → Int32) (bv : Nat → Int32) (f : Nat → Int64) (g : Nat → Int64) (cv : Nat → Int32) (i3 : Int32) (i4 : Int32) (s0 : Int32) : (Nat → Int32) × (Nat → Int32) × (Nat → Int32) × (Nat → Int32) × (Nat → Int64) × (Nat → Int64) × (Nat → Int32) × (Nat → Int32) × (Option S4) × (List S3) := bd (sv 3) (fun v15 => bd (i4 - v15) (fun v16 => bd (pk.2.2.2.2.1) (fun v17 => bd (upd sv 9 v17) (fun sv => (if v16 ≤ (0 : Int32) then xc_hear_90 ov go gq tf n0 k0 g0 pk n1 sv tv bv f g cv i3 i4 s0 v16 else bd (xc_sgoOn n0 k0 g0 sv tv bv cv f g v16 i3) (fun t18 => bd (t18.1) (fun sv => bd (t18.2.1) (fun tv => bd (t18.2.2.1) (fun bv => bd (t18.2.2.2.1) (fun cv => bd (t18.2.2.2.2.1) (fun f => bd (t18.2.2.2.2.2) (fun g => xc_hear_90 ov go gq tf n0 k0 g0 pk n1 sv tv bv f g cv i3 i4 s0 v16))))))))))))
set_option maxRecDepth 100000 in
def xc_hear_58 (ov : Nat → Int32) (go : Option S4) (gq : List S3) (tf : Nat → Int32) (n0 : Int32) (k0 : Int32) (g0 : Int32) (pk : A6) (n1 : Int32) (sv : Nat → Int32) (tv : Nat → Int32) (bv : Nat → Int32) (f : Nat → Int64) (g : Nat → Int64) (cv : Nat → Int32) (i3 : Int32) (i4 : Int32) : (Nat → Int32) × (Nat → Int32) × (Nat → Int32) × (Nat → Int32) × (Nat → Int64) × (Nat → Int64) × (Nat → Int32) × (Nat → Int32) × (Option S4) × (List S3) := xc_hear_59 ov go gq tf n0 k0 g0 pk n1 sv tv bv f g cv i3 i4 (0 : Int32)
set_option maxRecDepth 100000 in
def xc_hear (ov : Nat → Int32) (go : Option S4) (gq : List S3) (tf : Nat → Int32) (n0 : Int32) (k0 : Int32) (g0 : Int32) (sv : Nat → Int32) (tv : Nat → Int32) (bv : Nat → Int32) (cv : Nat → Int32) (f : Nat → Int64) (g : Nat → Int64) (n1 : Int32) (pk : A6) : (Nat → Int32) × (Nat → Int32) × (Nat → Int32) × (Nat → Int32) × (Nat → Int64) × (Nat → Int64) × (Nat → Int32) × (Nat → Int32) × (Option S4) × (List S3) := bd (pk.2.2.1) (fun v19 => bd (sv 3) (fun v20 => (if v20 ≤ v19 then bd (sv 3) (fun v21 => (if v19 = v21 then bd (pk.2.2.2.2.1) (fun v22 => bd (sv 9) (fun v23 => (if v22 = v23 then bd (sv 4) (fun v24 => bd (sv 3) (fun v25 => (if v24 ≤ v25 then xc_hear_58 ov go gq tf n0 k0 g0 pk n1 sv tv bv f g cv n1 v19 else bd (pk.2.2.2.1) (fun v26 => (if v26 = (0 : Int32) then xc_hear_59 ov go gq tf n0 k0 g0 pk n1 sv tv bv f g cv n1 v19 (1 : Int32) else xc_hear_58 ov go gq tf n0 k0 g0 pk n1 sv tv bv f g cv n1 v19))))) else xc_hear_58 ov go gq tf n0 k0 g0 pk n1 sv tv bv f g cv n1 v19))) else xc_hear_58 ov go gq tf n0 k0 g0 pk n1 sv tv bv f g cv n1 v19)) else (sv, tv, bv, cv, f, g, ov, tf, go, gq))))
set_option maxHeartbeats 4000000 in
set_option maxRecDepth 100000 in
theorem s_hear (l : Launch) (D : va_G) (cI cJ cZ cO : ClassId) (Hh : Heap) (r0 r1 r2 r3 r4 r5 : Nat) (ov : Nat → Int32) (ol : Option Nat) (cf cl : Nat → Option Nat) (zn : Nat → Int32) (xl : Nat → List Nat) (tag : Nat → Nat) (L : List Nat) (kd : Nat → Bool) (pi : Nat → Nat → Int32) (bd : Nat → Nat) (af : Nat → Option Nat) (bo : Nat → Nat → Int64) (go : Option S4) (gq : List S3) (gw : List S4) (ga : List A6) (tf : Nat → Int32) (h0 h1 h2 h3 h4 h5 h6 h7 : Nat) (n0 k0 g0 : Int32) (sv tv bv cv : Nat → Int32) (f g : Nat → Int64) (q : Nat) (n1 : Int32) (m_q : q ∈ L) (k_q : kd q = false) (hR : RI L kd af tag cf cl xl ol) (hPB : PB L kd pi bd) (hZ : ZN zn xl) (hG : GG xl pi bd bo ol go gq gw ga) (hJ : JB L kd bd) (hT : 0 ≤ ov 10) (hLK : LK ov) (hq0 : (xl 0).length ≤ 100) : Met l yX8_hear (wa yX8_hear cX8_hear 7 none) ({ frames := 5, cells := 2, slots := 11, locals := 115 }) (va_Pc [.ref h0, .ref q, .ref r0, .int n1] (pw_h D cI cJ cZ cO Hh ([(r0, rdC ov (va_rf ol) r1 r2 r3 r4 r5), (r1, chC cf cl zn 0), (r2, chC cf cl zn 1), (r3, chC cf cl zn 2), (r4, chC cf cl zn 3), (r5, tlC cI tf), (h0, snC n0 k0 g0 sv h1 h2 h7), (h1, tmC tv), (h2, boC h3 h5 bv), (h3, mkC h4), (h4, .inl (cJ, 4, .inr (.inl f))), (h5, mkC h6), (h6, .inl (cJ, 4, .inr (.inl g))), (h7, cuC cv)] ++ va_pl L (pf cJ kd pi bd af bo)))) (va_Qv (fun (_ : Unit) => True) (fun (_ : Unit) (t : State) => ∃ (sv2 tv2 bv2 cv2 : Nat → Int32) (f2 g2 : Nat → Int64) (ov2 tf2 : Nat → Int32) (ol2 : Option Nat) (cf2 cl2 : Nat → Option Nat) (zn2 : Nat → Int32) (xl2 : Nat → List Nat) (tag2 : Nat → Nat) (L2 : List Nat) (kd2 : Nat → Bool) (pi2 : Nat → Nat → Int32) (bd2 : Nat → Nat) (af2 : Nat → Option Nat) (bo2 : Nat → Nat → Int64) (b2 : Nat) (go2 : Option S4) (gq2 : List S3), ((RI L2 kd2 af2 tag2 cf2 cl2 xl2 ol2 ∧ PB L2 kd2 pi2 bd2 ∧ ZN zn2 xl2 ∧ 0 ≤ ov2 10 ∧ gr Hh t.heap b2 ∧ b2 ≤ 1 ∧ LK ov2 ∧ QQ L kd tag xl pi ol L2 kd2 tag2 xl2 pi2 ol2 [] [] b2 0) ∧ (GG xl2 pi2 bd2 bo2 ol2 go2 gq2 gw ga ∧ JB L2 kd2 bd2) ∧ sv2 = (xc_hear ov go gq tf n0 k0 g0 sv tv bv cv f g n1 (ca pi bd bo q)).1 ∧ tv2 = (xc_hear ov go gq tf n0 k0 g0 sv tv bv cv f g n1 (ca pi bd bo q)).2.1 ∧ bv2 = (xc_hear ov go gq tf n0 k0 g0 sv tv bv cv f g n1 (ca pi bd bo q)).2.2.1 ∧ cv2 = (xc_hear ov go gq tf n0 k0 g0 sv tv bv cv f g n1 (ca pi bd bo q)).2.2.2.1 ∧ f2 = (xc_hear ov go gq tf n0 k0 g0 sv tv bv cv f g n1 (ca pi bd bo q)).2.2.2.2.1 ∧ g2 = (xc_hear ov go gq tf n0 k0 g0 sv tv bv cv f g n1 (ca pi bd bo q)).2.2.2.2.2.1 ∧ ov2 = (xc_hear ov go gq tf n0 k0 g0 sv tv bv cv f g n1 (ca pi bd bo q)).2.2.2.2.2.2.1 ∧ tf2 = (xc_hear ov go gq tf n0 k0 g0 sv tv bv cv f g n1 (ca pi bd bo q)).2.2.2.2.2.2.2.1 ∧ go2 = (xc_hear ov go gq tf n0 k0 g0 sv tv bv cv f g n1 (ca pi bd bo q)).2.2.2.2.2.2.2.2.1 ∧ gq2 = (xc_hear ov go gq tf n0 k0 g0 sv tv bv cv f g n1 (ca pi bd bo q)).2.2.2.2.2.2.2.2.2) ∧ pw_t D cI cJ cZ cO (va_A ([(r0, rdC ov (va_rf ol) r1 r2 r3 r4 r5), (r1, chC cf cl zn 0), (r2, chC cf cl zn 1), (r3, chC cf cl zn 2), (r4, chC cf cl zn 3), (r5, tlC cI tf), (h0, snC n0 k0 g0 sv h1 h2 h7), (h1, tmC tv), (h2, boC h3 h5 bv), (h3, mkC h4), (h4, .inl (cJ, 4, .inr (.inl f))), (h5, mkC h6), (h6, .inl (cJ, 4, .inr (.inl g))), (h7, cuC cv)] ++ va_pl L (pf cJ kd pi bd af bo)) Hh.size) ([(r0, rdC ov2 (va_rf ol2) r1 r2 r3 r4 r5), (r1, chC cf2 cl2 zn2 0), (r2, chC cf2 cl2 zn2 1), (r3, chC cf2 cl2 zn2 2), (r4, chC cf2 cl2 zn2 3), (r5, tlC cI tf2), (h0, snC n0 k0 g0 sv2 h1 h2 h7), (h1, tmC tv2), (h2, boC h3 h5 bv2), (h3, mkC h4), (h4, .inl (cJ, 4, .inr (.inl f2))), (h5, mkC h6), (h6, .inl (cJ, 4, .inr (.inl g2))), (h7, cuC cv2)] ++ va_pl L2 (pf cJ kd2 pi2 bd2 af2 bo2)) t) (va_A ([(r0, rdC ov (va_rf ol) r1 r2 r3 r4 r5), (r1, chC cf cl zn 0), (r2, chC cf cl zn 1), (r3, chC cf cl zn 2), (r4, chC cf cl zn 3), (r5, tlC cI tf), (h0, snC n0 k0 g0 sv h1 h2 h7), (h1, tmC tv), (h2, boC h3 h5 bv), (h3, mkC h4), (h4, .inl (cJ, 4, .inr (.inl f))), (h5, mkC h6), (h6, .inl (cJ, 4, .inr (.inl g))), (h7, cuC cv)] ++ va_pl L (pf cJ kd pi bd af bo)) Hh.size)) 2 11 (va_A ([(r0, rdC ov (va_rf ol) r1 r2 r3 r4 r5), (r1, chC cf cl zn 0), (r2, chC cf cl zn 1), (r3, chC cf cl zn 2), (r4, chC cf cl zn 3), (r5, tlC cI tf), (h0, snC n0 k0 g0 sv h1 h2 h7), (h1, tmC tv), (h2, boC h3 h5 bv), (h3, mkC h4), (h4, .inl (cJ, 4, .inr (.inl f))), (h5, mkC h6), (h6, .inl (cJ, 4, .inr (.inl g))), (h7, cuC cv)] ++ va_pl L (pf cJ kd pi bd af bo)) Hh.size) := by
  refine Met.ofW (cc := cX8_hear) (maxL := 7) (ret := none) (by decide) rfl ?_
  intro p e s m args below meth c s₁ B hml hv
  obtain ⟨rfl, hsz, hP, hK, hD0, hN⟩ := hv
  have hx := B.exec
  have hb := B.bytes
  have hr := B.returns
  have hts := atoms_spec (ws := (wa yX8_hear cX8_hear 7 none)) B.pre
  have ha : ∀ w ∈ wsL_law, w.before _ s = true := fun w h => hts w (List.mem_cons_of_mem _ h)
  have hown : s.vm.findClass RX8 = some m.cls := findClass_of_methodNamed B.named
  have hlocks := B.notSynchronized
  subst hsz
  have hD := hD0.self (sz := s.heap.size)
  generalize hAe : va_A ([(r0, rdC ov (va_rf ol) r1 r2 r3 r4 r5), (r1, chC cf cl zn 0), (r2, chC cf cl zn 1), (r3, chC cf cl zn 2), (r4, chC cf cl zn 3), (r5, tlC cI tf), (h0, snC n0 k0 g0 sv h1 h2 h7), (h1, tmC tv), (h2, boC h3 h5 bv), (h3, mkC h4), (h4, .inl (cJ, 4, .inr (.inl f))), (h5, mkC h6), (h6, .inl (cJ, 4, .inr (.inl g))), (h7, cuC cv)] ++ va_pl L (pf cJ kd pi bd af bo)) s.heap.size = A at hD ⊢
  have hA : ∀ q : Nat, s.heap.size ≤ q → A q := fun q h => by rw [← hAe]; exact Or.inr h
  have hS : va_S A s.heap s.heap [] := va_S.rf
  have hP : va_P D vwCl ([(r0, rdC ov (va_rf ol) r1 r2 r3 r4 r5), (r1, chC cf cl zn 0), (r2, chC cf cl zn 1), (r3, chC cf cl zn 2), (r4, chC cf cl zn 3), (r5, tlC cI tf), (h0, snC n0 k0 g0 sv h1 h2 h7), (h1, tmC tv), (h2, boC h3 h5 bv), (h3, mkC h4), (h4, .inl (cJ, 4, .inr (.inl f))), (h5, mkC h6), (h6, .inl (cJ, 4, .inr (.inl g))), (h7, cuC cv)] ++ va_pl L (pf cJ kd pi bd af bo)) s.heap := hP
  have hl := lv_entry ([.ref h0, .ref q, .ref r0, .int n1]) (n := 7) (Nat.le_of_ble_eq_true rfl)
  rw [lg_entry_eq]
  generalize (lg_sl ([.ref h0, .ref q, .ref r0, .int n1]) ++ List.replicate (7 - (lg_sl ([.ref h0, .ref q, .ref r0, .int n1])).length) Slot.unset).toArray = ls at hl ⊢
  have hl : lv_has ls 7 [(0, .ref h0), (1, .ref q), (2, .ref r0), (3, .int n1)] := hl
  obtain ⟨QP, hQP⟩ : ∃ y : State → Prop, y = (MQ below (va_Qv (fun (_ : Unit) => True) (fun (_ : Unit) (t : State) => ∃ (sv2 tv2 bv2 cv2 : Nat → Int32) (f2 g2 : Nat → Int64) (ov2 tf2 : Nat → Int32) (ol2 : Option Nat) (cf2 cl2 : Nat → Option Nat) (zn2 : Nat → Int32) (xl2 : Nat → List Nat) (tag2 : Nat → Nat) (L2 : List Nat) (kd2 : Nat → Bool) (pi2 : Nat → Nat → Int32) (bd2 : Nat → Nat) (af2 : Nat → Option Nat) (bo2 : Nat → Nat → Int64) (b2 : Nat) (go2 : Option S4) (gq2 : List S3), ((RI L2 kd2 af2 tag2 cf2 cl2 xl2 ol2 ∧ PB L2 kd2 pi2 bd2 ∧ ZN zn2 xl2 ∧ 0 ≤ ov2 10 ∧ gr s.heap t.heap b2 ∧ b2 ≤ 1 ∧ LK ov2 ∧ QQ L kd tag xl pi ol L2 kd2 tag2 xl2 pi2 ol2 [] [] b2 0) ∧ (GG xl2 pi2 bd2 bo2 ol2 go2 gq2 gw ga ∧ JB L2 kd2 bd2) ∧ sv2 = (xc_hear ov go gq tf n0 k0 g0 sv tv bv cv f g n1 (ca pi bd bo q)).1 ∧ tv2 = (xc_hear ov go gq tf n0 k0 g0 sv tv bv cv f g n1 (ca pi bd bo q)).2.1 ∧ bv2 = (xc_hear ov go gq tf n0 k0 g0 sv tv bv cv f g n1 (ca pi bd bo q)).2.2.1 ∧ cv2 = (xc_hear ov go gq tf n0 k0 g0 sv tv bv cv f g n1 (ca pi bd bo q)).2.2.2.1 ∧ f2 = (xc_hear ov go gq tf n0 k0 g0 sv tv bv cv f g n1 (ca pi bd bo q)).2.2.2.2.1 ∧ g2 = (xc_hear ov go gq tf n0 k0 g0 sv tv bv cv f g n1 (ca pi bd bo q)).2.2.2.2.2.1 ∧ ov2 = (xc_hear ov go gq tf n0 k0 g0 sv tv bv cv f g n1 (ca pi bd bo q)).2.2.2.2.2.2.1 ∧ tf2 = (xc_hear ov go gq tf n0 k0 g0 sv tv bv cv f g n1 (ca pi bd bo q)).2.2.2.2.2.2.2.1 ∧ go2 = (xc_hear ov go gq tf n0 k0 g0 sv tv bv cv f g n1 (ca pi bd bo q)).2.2.2.2.2.2.2.2.1 ∧ gq2 = (xc_hear ov go gq tf n0 k0 g0 sv tv bv cv f g n1 (ca pi bd bo q)).2.2.2.2.2.2.2.2.2) ∧ pw_t D cI cJ cZ cO A ([(r0, rdC ov2 (va_rf ol2) r1 r2 r3 r4 r5), (r1, chC cf2 cl2 zn2 0), (r2, chC cf2 cl2 zn2 1), (r3, chC cf2 cl2 zn2 2), (r4, chC cf2 cl2 zn2 3), (r5, tlC cI tf2), (h0, snC n0 k0 g0 sv2 h1 h2 h7), (h1, tmC tv2), (h2, boC h3 h5 bv2), (h3, mkC h4), (h4, .inl (cJ, 4, .inr (.inl f2))), (h5, mkC h6), (h6, .inl (cJ, 4, .inr (.inl g2))), (h7, cuC cv2)] ++ va_pl L2 (pf cJ kd2 pi2 bd2 af2 bo2)) t) A) #[(.ref h0 : Value), (.ref q : Value), (.ref r0 : Value), (.int n1 : Value)] s 2 11 A) := ⟨_, rfl⟩
  obtain ⟨RES, hRES⟩ : ∃ y, y = (xc_hear ov go gq tf n0 k0 g0 sv tv bv cv f g n1 (ca pi bd bo q)) := ⟨_, rfl⟩
  have hQ : QQ L kd tag xl pi ol L kd tag xl pi ol [] [] 0 0 := QQ_rf
  have J_140 : ∀ (sv : Nat → Int32) (tv : Nat → Int32) (bv : Nat → Int32) (f : Nat → Int64) (g : Nat → Int64) (cv : Nat → Int32) (H : Heap) (locs : List Loc), va_P D vwCl ([(r0, rdC ov (va_rf ol) r1 r2 r3 r4 r5), (r1, chC cf cl zn 0), (r2, chC cf cl zn 1), (r3, chC cf cl zn 2), (r4, chC cf cl zn 3), (r5, tlC cI tf), (h0, snC n0 k0 g0 sv h1 h2 h7), (h1, tmC tv), (h2, boC h3 h5 bv), (h3, mkC h4), (h4, .inl (cJ, 4, .inr (.inl f))), (h5, mkC h6), (h6, .inl (cJ, 4, .inr (.inl g))), (h7, cuC cv)] ++ va_pl L (pf cJ kd pi bd af bo)) H → va_D A ([(r0, rdC ov (va_rf ol) r1 r2 r3 r4 r5), (r1, chC cf cl zn 0), (r2, chC cf cl zn 1), (r3, chC cf cl zn 2), (r4, chC cf cl zn 3), (r5, tlC cI tf), (h0, snC n0 k0 g0 sv h1 h2 h7), (h1, tmC tv), (h2, boC h3 h5 bv), (h3, mkC h4), (h4, .inl (cJ, 4, .inr (.inl f))), (h5, mkC h6), (h6, .inl (cJ, 4, .inr (.inl g))), (h7, cuC cv)] ++ va_pl L (pf cJ kd pi bd af bo)) → va_S A s.heap H locs → ∀ (i3 : Int32) (i4 : Int32) (i5 : Int32) (i6 : Int32) (ls : Array Slot), lv_has ls 7 [(0, .ref h0), (1, .ref q), (2, .ref r0), (3, .int i3), (4, .int i4), (5, .int i5), (6, .int i6)] → RES = xc_hear_140 ov go gq tf n0 k0 g0 (ca pi bd bo q) n1 sv tv bv f g cv i3 i4 i5 i6 → W p l e ({ frames := 5, cells := 2, slots := 11, locals := 115 }) s m #[(.ref h0 : Value), (.ref q : Value), (.ref r0 : Value), (.int n1 : Value)] below meth c H locs 0 0 QP (F0 m 140 ls []) := by
    intro sv tv bv f g cv H locs hP hD hS i3 i4 i5 i6 ls hl hE
    unfold xc_hear_140 at hE
    refine lv_iload hx hb dX8_hear_140 (lv_at hl 6 rfl) ?_
    refine lv_if_le (tgt := 158) hx hb dX8_hear_142 (by decide) (fun c_129 => ?_) (fun c_129 => ?_)
    · have hE := hE.trans (if_pos c_129)
      refine lv_iload hx hb dX8_hear_158 (lv_at hl 5 rfl) ?_
      refine lv_if_eq (tgt := 183) hx hb dX8_hear_160 (by decide) (fun c_130 => ?_) (fun c_130 => ?_)
      · have hE := hE.trans (if_pos c_130)
        refine lv_aload_n hx hb dX8_hear_183 rfl (lv_at hl 0 rfl) ?_
        refine va_get (D := D) (ci := 8) (v := .int (sv 9)) (C := RX8) (T := TX8) (N := 20) hx hb ha inlX8 hown hK hP 6 rfl rfl 9 (by decide) (ha _ kf_X8_22) (fun _ h9 => h9) rfl dX8_hear_184 ?_
        refine lv_topi (fun x_131 ex_131 => ?_)
        have hE := bd_at ex_131 hE
        refine lv_if_le (tgt := 208) hx hb dX8_hear_187 (by decide) (fun c_132 => ?_) (fun c_132 => ?_)
        · have hE := hE.trans (if_pos c_132)
          rw [hQP]
          refine W.know2 (fun hk1 hk2 => ?_)
          have hg0 : gr s.heap _ 0 := ⟨hk1, hk2⟩
          refine W.widen (k := 2) (n := 11) (Nat.le_of_ble_eq_true rfl) (Nat.le_of_ble_eq_true rfl) ?_
          have hP9 : va_P D vwCl ([(r0, rdC ov (va_rf ol) r1 r2 r3 r4 r5), (r1, chC cf cl zn 0), (r2, chC cf cl zn 1), (r3, chC cf cl zn 2), (r4, chC cf cl zn 3), (r5, tlC cI tf), (h0, snC n0 k0 g0 sv h1 h2 h7), (h1, tmC tv), (h2, boC h3 h5 bv), (h3, mkC h4), (h4, .inl (cJ, 4, .inr (.inl f))), (h5, mkC h6), (h6, .inl (cJ, 4, .inr (.inl g))), (h7, cuC cv)] ++ va_pl L (pf cJ kd pi bd af bo)) _ := hP
          have hD9 : va_D A ([(r0, rdC ov (va_rf ol) r1 r2 r3 r4 r5), (r1, chC cf cl zn 0), (r2, chC cf cl zn 1), (r3, chC cf cl zn 2), (r4, chC cf cl zn 3), (r5, tlC cI tf), (h0, snC n0 k0 g0 sv h1 h2 h7), (h1, tmC tv), (h2, boC h3 h5 bv), (h3, mkC h4), (h4, .inl (cJ, 4, .inr (.inl f))), (h5, mkC h6), (h6, .inl (cJ, 4, .inr (.inl g))), (h7, cuC cv)] ++ va_pl L (pf cJ kd pi bd af bo)) := hD
          exact W.vret hx hb hr (fun t ht hW => ⟨⟨(), rfl, trivial, ⟨sv, tv, bv, cv, f, g, ov, tf, ol, cf, cl, zn, xl, tag, L, kd, pi, bd, af, bo, 0, go, gq, ⟨⟨hR, hPB, hZ, hT, by rw [ht]; exact hg0, by omega, hLK, hQ⟩, ⟨hG, hJ⟩, (by rw [← hRES, hE]), (by rw [← hRES, hE]), (by rw [← hRES, hE]), (by rw [← hRES, hE]), (by rw [← hRES, hE]), (by rw [← hRES, hE]), (by rw [← hRES, hE]), (by rw [← hRES, hE]), (by rw [← hRES, hE]), (by rw [← hRES, hE])⟩, by rw [ht]; exact hP9, va_K.moved hW.alike hK, hD9⟩⟩, hS.F ht⟩) hS.2.2 dX8_hear_208
        · have hE := hE.trans (if_neg c_132)
          refine lv_aload_n hx hb dX8_hear_190 rfl (lv_at hl 0 rfl) ?_
          refine va_get (D := D) (ci := 8) (v := .int (sv 4)) (C := RX8) (T := TX8) (N := 20) hx hb ha inlX8 hown hK hP 6 rfl rfl 4 (by decide) (ha _ kf_X8_65) (fun _ h9 => h9) rfl dX8_hear_191 ?_
          refine lv_topi (fun x_133 ex_133 => ?_)
          have hE := bd_at ex_133 hE
          refine lv_aload_n hx hb dX8_hear_194 rfl (lv_at hl 0 rfl) ?_
          refine va_get (D := D) (ci := 8) (v := .int (sv 3)) (C := RX8) (T := TX8) (N := 20) hx hb ha inlX8 hown hK hP 6 rfl rfl 3 (by decide) (ha _ kf_X8_59) (fun _ h9 => h9) rfl dX8_hear_195 ?_
          refine lv_topi (fun x_134 ex_134 => ?_)
          have hE := bd_at ex_134 hE
          refine lv_icmp_ne (tgt := 208) hx hb dX8_hear_198 (by decide) (fun c_135 => ?_) (fun c_135 => ?_)
          · have hE := hE.trans (if_neg c_135)
            rw [hQP]
            refine W.know2 (fun hk1 hk2 => ?_)
            have hg0 : gr s.heap _ 0 := ⟨hk1, hk2⟩
            refine W.widen (k := 2) (n := 11) (Nat.le_of_ble_eq_true rfl) (Nat.le_of_ble_eq_true rfl) ?_
            have hP9 : va_P D vwCl ([(r0, rdC ov (va_rf ol) r1 r2 r3 r4 r5), (r1, chC cf cl zn 0), (r2, chC cf cl zn 1), (r3, chC cf cl zn 2), (r4, chC cf cl zn 3), (r5, tlC cI tf), (h0, snC n0 k0 g0 sv h1 h2 h7), (h1, tmC tv), (h2, boC h3 h5 bv), (h3, mkC h4), (h4, .inl (cJ, 4, .inr (.inl f))), (h5, mkC h6), (h6, .inl (cJ, 4, .inr (.inl g))), (h7, cuC cv)] ++ va_pl L (pf cJ kd pi bd af bo)) _ := hP
            have hD9 : va_D A ([(r0, rdC ov (va_rf ol) r1 r2 r3 r4 r5), (r1, chC cf cl zn 0), (r2, chC cf cl zn 1), (r3, chC cf cl zn 2), (r4, chC cf cl zn 3), (r5, tlC cI tf), (h0, snC n0 k0 g0 sv h1 h2 h7), (h1, tmC tv), (h2, boC h3 h5 bv), (h3, mkC h4), (h4, .inl (cJ, 4, .inr (.inl f))), (h5, mkC h6), (h6, .inl (cJ, 4, .inr (.inl g))), (h7, cuC cv)] ++ va_pl L (pf cJ kd pi bd af bo)) := hD
            exact W.vret hx hb hr (fun t ht hW => ⟨⟨(), rfl, trivial, ⟨sv, tv, bv, cv, f, g, ov, tf, ol, cf, cl, zn, xl, tag, L, kd, pi, bd, af, bo, 0, go, gq, ⟨⟨hR, hPB, hZ, hT, by rw [ht]; exact hg0, by omega, hLK, hQ⟩, ⟨hG, hJ⟩, (by rw [← hRES, hE]), (by rw [← hRES, hE]), (by rw [← hRES, hE]), (by rw [← hRES, hE]), (by rw [← hRES, hE]), (by rw [← hRES, hE]), (by rw [← hRES, hE]), (by rw [← hRES, hE]), (by rw [← hRES, hE]), (by rw [← hRES, hE])⟩, by rw [ht]; exact hP9, va_K.moved hW.alike hK, hD9⟩⟩, hS.F ht⟩) hS.2.2 dX8_hear_208
          · have hE := hE.trans (if_pos c_135)
            refine lv_aload_n hx hb dX8_hear_201 rfl (lv_at hl 0 rfl) ?_
            refine va_get (D := D) (ci := 8) (v := .ref h1) (C := RX8) (T := TX8) (N := 20) hx hb ha inlX8 hown hK hP 6 rfl rfl 17 (by decide) (ha _ kf_X8_28) (fun _ h9 => h9) rfl dX8_hear_202 ?_
            have hPc := hP.sub (ws' := [(h1, tmC tv)]) [7] rfl
            have hDc := hD.sub (ws' := [(h1, tmC tv)]) [7] (by decide) rfl
            have hFc := va_free (wc := [(h1, tmC tv)]) hD hS hA [7] rfl
            refine va_callv (va_runV (As := []) (rest := []) ⟨hx, hb, hml, hown, ha⟩ (s_tput l D cI cJ cZ cO _ h1 tv) (cwV 0 ha (gaV kl_X8_111 km_X9_putOff ks_X9_putOff kz_X9 kd_X9_putOff) rfl rfl rfl (by decide +kernel) ⟨Nat.le_of_ble_eq_true rfl, Nat.le_of_ble_eq_true rfl⟩) ⟨pw_blind, va_recv hK hPc (ci := 9) (q0 := 0) rfl rfl, fun U hU hW => ⟨rfl, pw_start hU hW hPc hK hDc hN⟩⟩ rfl rfl hl.1 rfl (lv_room (Nat.le_of_ble_eq_true rfl)) dX8_hear_205 ⟨Nat.le_of_ble_eq_true rfl, Nat.le_of_ble_eq_true rfl⟩) hS (fun q _ h => hFc q h) hFc (fun u t H1 locs ht hvm hw hB hz1 hk1 hS => ?_)
            obtain ⟨tv, hX0, hP1, hK1, hD1⟩ := hB
            have hE := bd_at rfl hE
            have hE := bd_at hX0 hE
            rw [ht] at hP1
            obtain ⟨hP, hD⟩ := va_joinQ (wr := [(r0, rdC ov (va_rf ol) r1 r2 r3 r4 r5), (r1, chC cf cl zn 0), (r2, chC cf cl zn 1), (r3, chC cf cl zn 2), (r4, chC cf cl zn 3), (r5, tlC cI tf), (h0, snC n0 k0 g0 sv h1 h2 h7), (h2, boC h3 h5 bv), (h3, mkC h4), (h4, .inl (cJ, 4, .inr (.inl f))), (h5, mkC h6), (h6, .inl (cJ, 4, .inr (.inl g))), (h7, cuC cv)]) (w1 := [(h1, tmC tv)]) hP hD [7] [0, 1, 2, 3, 4, 5, 6, 8, 9, 10, 11, 12, 13] rfl rfl (by decide) (by decide) hk1 hFc hP1 hD1
            generalize H1 = H at hP hS ⊢
            have hP : va_P D vwCl ([(r0, rdC ov (va_rf ol) r1 r2 r3 r4 r5), (r1, chC cf cl zn 0), (r2, chC cf cl zn 1), (r3, chC cf cl zn 2), (r4, chC cf cl zn 3), (r5, tlC cI tf), (h0, snC n0 k0 g0 sv h1 h2 h7), (h2, boC h3 h5 bv), (h3, mkC h4), (h4, .inl (cJ, 4, .inr (.inl f))), (h5, mkC h6), (h6, .inl (cJ, 4, .inr (.inl g))), (h7, cuC cv), (h1, tmC tv)] ++ va_pl L (pf cJ kd pi bd af bo)) H := hP
            have hD : va_D A ([(r0, rdC ov (va_rf ol) r1 r2 r3 r4 r5), (r1, chC cf cl zn 0), (r2, chC cf cl zn 1), (r3, chC cf cl zn 2), (r4, chC cf cl zn 3), (r5, tlC cI tf), (h0, snC n0 k0 g0 sv h1 h2 h7), (h2, boC h3 h5 bv), (h3, mkC h4), (h4, .inl (cJ, 4, .inr (.inl f))), (h5, mkC h6), (h6, .inl (cJ, 4, .inr (.inl g))), (h7, cuC cv), (h1, tmC tv)] ++ va_pl L (pf cJ kd pi bd af bo)) := hD
            refine W.widen (k := 0) (n := 0) (Nat.le_of_ble_eq_true rfl) (Nat.le_of_ble_eq_true rfl) ?_
            rw [hQP]
            refine W.know2 (fun hk1 hk2 => ?_)
            have hg0 : gr s.heap _ 0 := ⟨hk1, hk2⟩
            refine W.widen (k := 2) (n := 11) (Nat.le_of_ble_eq_true rfl) (Nat.le_of_ble_eq_true rfl) ?_
            have hP9 : va_P D vwCl ([(r0, rdC ov (va_rf ol) r1 r2 r3 r4 r5), (r1, chC cf cl zn 0), (r2, chC cf cl zn 1), (r3, chC cf cl zn 2), (r4, chC cf cl zn 3), (r5, tlC cI tf), (h0, snC n0 k0 g0 sv h1 h2 h7), (h1, tmC tv), (h2, boC h3 h5 bv), (h3, mkC h4), (h4, .inl (cJ, 4, .inr (.inl f))), (h5, mkC h6), (h6, .inl (cJ, 4, .inr (.inl g))), (h7, cuC cv)] ++ va_pl L (pf cJ kd pi bd af bo)) _ := hP.part [0, 1, 2, 3, 4, 5, 6, 13, 7, 8, 9, 10, 11, 12] rfl
            have hD9 : va_D A ([(r0, rdC ov (va_rf ol) r1 r2 r3 r4 r5), (r1, chC cf cl zn 0), (r2, chC cf cl zn 1), (r3, chC cf cl zn 2), (r4, chC cf cl zn 3), (r5, tlC cI tf), (h0, snC n0 k0 g0 sv h1 h2 h7), (h1, tmC tv), (h2, boC h3 h5 bv), (h3, mkC h4), (h4, .inl (cJ, 4, .inr (.inl f))), (h5, mkC h6), (h6, .inl (cJ, 4, .inr (.inl g))), (h7, cuC cv)] ++ va_pl L (pf cJ kd pi bd af bo)) := hD.part [0, 1, 2, 3, 4, 5, 6, 13, 7, 8, 9, 10, 11, 12] (by decide) rfl
            exact W.vret hx hb hr (fun t ht hW => ⟨⟨(), rfl, trivial, ⟨sv, tv, bv, cv, f, g, ov, tf, ol, cf, cl, zn, xl, tag, L, kd, pi, bd, af, bo, 0, go, gq, ⟨⟨hR, hPB, hZ, hT, by rw [ht]; exact hg0, by omega, hLK, hQ⟩, ⟨hG, hJ⟩, (by rw [← hRES, hE]), (by rw [← hRES, hE]), (by rw [← hRES, hE]), (by rw [← hRES, hE]), (by rw [← hRES, hE]), (by rw [← hRES, hE]), (by rw [← hRES, hE]), (by rw [← hRES, hE]), (by rw [← hRES, hE]), (by rw [← hRES, hE])⟩, by rw [ht]; exact hP9, va_K.moved hW.alike hK, hD9⟩⟩, hS.F ht⟩) hS.2.2 dX8_hear_208
      · have hE := hE.trans (if_neg c_130)
        refine lv_aload_n hx hb dX8_hear_163 rfl (lv_at hl 0 rfl) ?_
        have hPc := hP.sub (ws' := [(h0, snC n0 k0 g0 sv h1 h2 h7), (h1, tmC tv), (h2, boC h3 h5 bv), (h3, mkC h4), (h4, .inl (cJ, 4, .inr (.inl f))), (h5, mkC h6), (h6, .inl (cJ, 4, .inr (.inl g))), (h7, cuC cv)]) [6, 7, 8, 9, 10, 11, 12, 13] rfl
        have hDc := hD.sub (ws' := [(h0, snC n0 k0 g0 sv h1 h2 h7), (h1, tmC tv), (h2, boC h3 h5 bv), (h3, mkC h4), (h4, .inl (cJ, 4, .inr (.inl f))), (h5, mkC h6), (h6, .inl (cJ, 4, .inr (.inl g))), (h7, cuC cv)]) [6, 7, 8, 9, 10, 11, 12, 13] (by decide) rfl
        have hFc := va_free (wc := [(h0, snC n0 k0 g0 sv h1 h2 h7), (h1, tmC tv), (h2, boC h3 h5 bv), (h3, mkC h4), (h4, .inl (cJ, 4, .inr (.inl f))), (h5, mkC h6), (h6, .inl (cJ, 4, .inr (.inl g))), (h7, cuC cv)]) hD hS hA [6, 7, 8, 9, 10, 11, 12, 13] rfl
        refine va_callv (va_runV (As := []) (rest := []) ⟨hx, hb, hml, hown, ha⟩ (s_dup l D cI cJ cZ cO _ h0 h1 h2 h3 h4 h5 h6 h7 n0 k0 g0 sv tv bv cv f g) (cwV 0 ha (gaV kl_X8_100 km_X8_countDuplicate ks_X8_countDuplicate kz_X8 kd_X8_countDuplicate) rfl rfl rfl (by decide +kernel) ⟨Nat.le_of_ble_eq_true rfl, Nat.le_of_ble_eq_true rfl⟩) ⟨pw_blind, va_recv hK hPc (ci := 8) (q0 := 0) rfl rfl, fun U hU hW => ⟨rfl, pw_start hU hW hPc hK hDc hN⟩⟩ rfl rfl hl.1 rfl (lv_room (Nat.le_of_ble_eq_true rfl)) dX8_hear_164 ⟨Nat.le_of_ble_eq_true rfl, Nat.le_of_ble_eq_true rfl⟩) hS (fun q _ h => hFc q h) hFc (fun u t H1 locs ht hvm hw hB hz1 hk1 hS => ?_)
        obtain ⟨sv, tv, bv, cv, f, g, ⟨hX0, hX1, hX2, hX3, hX4, hX5⟩, hP1, hK1, hD1⟩ := hB
        have hE := bd_at rfl hE
        have hE := bd_at hX0 hE
        have hE := bd_at hX1 hE
        have hE := bd_at hX2 hE
        have hE := bd_at hX3 hE
        have hE := bd_at hX4 hE
        have hE := bd_at hX5 hE
        rw [ht] at hP1
        obtain ⟨hP, hD⟩ := va_joinQ (wr := [(r0, rdC ov (va_rf ol) r1 r2 r3 r4 r5), (r1, chC cf cl zn 0), (r2, chC cf cl zn 1), (r3, chC cf cl zn 2), (r4, chC cf cl zn 3), (r5, tlC cI tf)]) (w1 := [(h0, snC n0 k0 g0 sv h1 h2 h7), (h1, tmC tv), (h2, boC h3 h5 bv), (h3, mkC h4), (h4, .inl (cJ, 4, .inr (.inl f))), (h5, mkC h6), (h6, .inl (cJ, 4, .inr (.inl g))), (h7, cuC cv)]) hP hD [6, 7, 8, 9, 10, 11, 12, 13] [0, 1, 2, 3, 4, 5] rfl rfl (by decide) (by decide) hk1 hFc hP1 hD1
        generalize H1 = H at hP hS ⊢
        have hP : va_P D vwCl ([(r0, rdC ov (va_rf ol) r1 r2 r3 r4 r5), (r1, chC cf cl zn 0), (r2, chC cf cl zn 1), (r3, chC cf cl zn 2), (r4, chC cf cl zn 3), (r5, tlC cI tf), (h0, snC n0 k0 g0 sv h1 h2 h7), (h1, tmC tv), (h2, boC h3 h5 bv), (h3, mkC h4), (h4, .inl (cJ, 4, .inr (.inl f))), (h5, mkC h6), (h6, .inl (cJ, 4, .inr (.inl g))), (h7, cuC cv)] ++ va_pl L (pf cJ kd pi bd af bo)) H := hP
        have hD : va_D A ([(r0, rdC ov (va_rf ol) r1 r2 r3 r4 r5), (r1, chC cf cl zn 0), (r2, chC cf cl zn 1), (r3, chC cf cl zn 2), (r4, chC cf cl zn 3), (r5, tlC cI tf), (h0, snC n0 k0 g0 sv h1 h2 h7), (h1, tmC tv), (h2, boC h3 h5 bv), (h3, mkC h4), (h4, .inl (cJ, 4, .inr (.inl f))), (h5, mkC h6), (h6, .inl (cJ, 4, .inr (.inl g))), (h7, cuC cv)] ++ va_pl L (pf cJ kd pi bd af bo)) := hD
        refine W.widen (k := 0) (n := 0) (Nat.le_of_ble_eq_true rfl) (Nat.le_of_ble_eq_true rfl) ?_
        refine lv_aload_n hx hb dX8_hear_167 rfl (lv_at hl 0 rfl) ?_
        have hPc := hP.sub (ws' := [(h0, snC n0 k0 g0 sv h1 h2 h7), (h1, tmC tv), (h2, boC h3 h5 bv), (h3, mkC h4), (h4, .inl (cJ, 4, .inr (.inl f))), (h5, mkC h6), (h6, .inl (cJ, 4, .inr (.inl g))), (h7, cuC cv)]) [6, 7, 8, 9, 10, 11, 12, 13] rfl
        have hDc := hD.sub (ws' := [(h0, snC n0 k0 g0 sv h1 h2 h7), (h1, tmC tv), (h2, boC h3 h5 bv), (h3, mkC h4), (h4, .inl (cJ, 4, .inr (.inl f))), (h5, mkC h6), (h6, .inl (cJ, 4, .inr (.inl g))), (h7, cuC cv)]) [6, 7, 8, 9, 10, 11, 12, 13] (by decide) rfl
        have hFc := va_free (wc := [(h0, snC n0 k0 g0 sv h1 h2 h7), (h1, tmC tv), (h2, boC h3 h5 bv), (h3, mkC h4), (h4, .inl (cJ, 4, .inr (.inl f))), (h5, mkC h6), (h6, .inl (cJ, 4, .inr (.inl g))), (h7, cuC cv)]) hD hS hA [6, 7, 8, 9, 10, 11, 12, 13] rfl
        refine va_calli (va_runV (As := []) (rest := []) ⟨hx, hb, hml, hown, ha⟩ (s_starts l D cI cJ cZ cO _ h0 h1 h2 h3 h4 h5 h6 h7 n0 k0 g0 sv tv bv cv f g) (cwV 0 ha (gaV kl_X8_103 km_X8_startsRecovery ks_X8_startsRecovery kz_X8 kd_X8_startsRecovery) rfl rfl rfl (by decide +kernel) ⟨Nat.le_of_ble_eq_true rfl, Nat.le_of_ble_eq_true rfl⟩) ⟨pw_blind, va_recv hK hPc (ci := 8) (q0 := 0) rfl rfl, fun U hU hW => ⟨rfl, pw_start hU hW hPc hK hDc hN⟩⟩ rfl rfl hl.1 rfl (lv_room (Nat.le_of_ble_eq_true rfl)) dX8_hear_168 ⟨Nat.le_of_ble_eq_true rfl, Nat.le_of_ble_eq_true rfl⟩) hS (fun q _ h => hFc q h) hFc (fun r_147 u t H1 locs ht hvm hw hB hz1 hk1 hS => ?_)
        obtain ⟨sv, tv, bv, cv, f, g, ⟨hX0, hX1, hX2, hX3, hX4, hX5⟩, hP1, hK1, hD1⟩ := hB
        have hE := bd_at rfl hE
        have hE := bd_at hX0 hE
        have hE := bd_at hX1 hE
        have hE := bd_at hX2 hE
        have hE := bd_at hX3 hE
        have hE := bd_at hX4 hE
        have hE := bd_at hX5 hE
        have hE := bd_at hw.2 hE
        rw [ht] at hP1
        obtain ⟨hP, hD⟩ := va_joinQ (wr := [(r0, rdC ov (va_rf ol) r1 r2 r3 r4 r5), (r1, chC cf cl zn 0), (r2, chC cf cl zn 1), (r3, chC cf cl zn 2), (r4, chC cf cl zn 3), (r5, tlC cI tf)]) (w1 := [(h0, snC n0 k0 g0 sv h1 h2 h7), (h1, tmC tv), (h2, boC h3 h5 bv), (h3, mkC h4), (h4, .inl (cJ, 4, .inr (.inl f))), (h5, mkC h6), (h6, .inl (cJ, 4, .inr (.inl g))), (h7, cuC cv)]) hP hD [6, 7, 8, 9, 10, 11, 12, 13] [0, 1, 2, 3, 4, 5] rfl rfl (by decide) (by decide) hk1 hFc hP1 hD1
        generalize H1 = H at hP hS ⊢
        have hP : va_P D vwCl ([(r0, rdC ov (va_rf ol) r1 r2 r3 r4 r5), (r1, chC cf cl zn 0), (r2, chC cf cl zn 1), (r3, chC cf cl zn 2), (r4, chC cf cl zn 3), (r5, tlC cI tf), (h0, snC n0 k0 g0 sv h1 h2 h7), (h1, tmC tv), (h2, boC h3 h5 bv), (h3, mkC h4), (h4, .inl (cJ, 4, .inr (.inl f))), (h5, mkC h6), (h6, .inl (cJ, 4, .inr (.inl g))), (h7, cuC cv)] ++ va_pl L (pf cJ kd pi bd af bo)) H := hP
        have hD : va_D A ([(r0, rdC ov (va_rf ol) r1 r2 r3 r4 r5), (r1, chC cf cl zn 0), (r2, chC cf cl zn 1), (r3, chC cf cl zn 2), (r4, chC cf cl zn 3), (r5, tlC cI tf), (h0, snC n0 k0 g0 sv h1 h2 h7), (h1, tmC tv), (h2, boC h3 h5 bv), (h3, mkC h4), (h4, .inl (cJ, 4, .inr (.inl f))), (h5, mkC h6), (h6, .inl (cJ, 4, .inr (.inl g))), (h7, cuC cv)] ++ va_pl L (pf cJ kd pi bd af bo)) := hD
        refine W.widen (k := 0) (n := 0) (Nat.le_of_ble_eq_true rfl) (Nat.le_of_ble_eq_true rfl) ?_
        have hr_147 := hw.1
        refine lv_if_eq (tgt := 208) hx hb dX8_hear_171 (by decide) (fun c_155 => ?_) (fun c_155 => ?_)
        · have hE := hE.trans (if_pos c_155)
          rw [hQP]
          refine W.know2 (fun hk1 hk2 => ?_)
          have hg0 : gr s.heap _ 0 := ⟨hk1, hk2⟩
          refine W.widen (k := 2) (n := 11) (Nat.le_of_ble_eq_true rfl) (Nat.le_of_ble_eq_true rfl) ?_
          have hP9 : va_P D vwCl ([(r0, rdC ov (va_rf ol) r1 r2 r3 r4 r5), (r1, chC cf cl zn 0), (r2, chC cf cl zn 1), (r3, chC cf cl zn 2), (r4, chC cf cl zn 3), (r5, tlC cI tf), (h0, snC n0 k0 g0 sv h1 h2 h7), (h1, tmC tv), (h2, boC h3 h5 bv), (h3, mkC h4), (h4, .inl (cJ, 4, .inr (.inl f))), (h5, mkC h6), (h6, .inl (cJ, 4, .inr (.inl g))), (h7, cuC cv)] ++ va_pl L (pf cJ kd pi bd af bo)) _ := hP
          have hD9 : va_D A ([(r0, rdC ov (va_rf ol) r1 r2 r3 r4 r5), (r1, chC cf cl zn 0), (r2, chC cf cl zn 1), (r3, chC cf cl zn 2), (r4, chC cf cl zn 3), (r5, tlC cI tf), (h0, snC n0 k0 g0 sv h1 h2 h7), (h1, tmC tv), (h2, boC h3 h5 bv), (h3, mkC h4), (h4, .inl (cJ, 4, .inr (.inl f))), (h5, mkC h6), (h6, .inl (cJ, 4, .inr (.inl g))), (h7, cuC cv)] ++ va_pl L (pf cJ kd pi bd af bo)) := hD
          exact W.vret hx hb hr (fun t ht hW => ⟨⟨(), rfl, trivial, ⟨sv, tv, bv, cv, f, g, ov, tf, ol, cf, cl, zn, xl, tag, L, kd, pi, bd, af, bo, 0, go, gq, ⟨⟨hR, hPB, hZ, hT, by rw [ht]; exact hg0, by omega, hLK, hQ⟩, ⟨hG, hJ⟩, (by rw [← hRES, hE]), (by rw [← hRES, hE]), (by rw [← hRES, hE]), (by rw [← hRES, hE]), (by rw [← hRES, hE]), (by rw [← hRES, hE]), (by rw [← hRES, hE]), (by rw [← hRES, hE]), (by rw [← hRES, hE]), (by rw [← hRES, hE])⟩, by rw [ht]; exact hP9, va_K.moved hW.alike hK, hD9⟩⟩, hS.F ht⟩) hS.2.2 dX8_hear_208
        · have hE := hE.trans (if_neg c_155)
          refine lv_aload_n hx hb dX8_hear_174 rfl (lv_at hl 0 rfl) ?_
          refine lv_aload_n hx hb dX8_hear_175 rfl (lv_at hl 2 rfl) ?_
          refine lv_iload_n hx hb dX8_hear_176 rfl (lv_at hl 3 rfl) ?_
          have hPc := hP.part (X := [(r0, rdC ov (va_rf ol) r1 r2 r3 r4 r5), (r1, chC cf cl zn 0), (r2, chC cf cl zn 1), (r3, chC cf cl zn 2), (r4, chC cf cl zn 3), (r5, tlC cI tf), (h0, snC n0 k0 g0 sv h1 h2 h7), (h1, tmC tv), (h2, boC h3 h5 bv), (h3, mkC h4), (h4, .inl (cJ, 4, .inr (.inl f))), (h5, mkC h6), (h6, .inl (cJ, 4, .inr (.inl g))), (h7, cuC cv)]) (cx := [(r0, rdC ov (va_rf ol) r1 r2 r3 r4 r5), (r1, chC cf cl zn 0), (r2, chC cf cl zn 1), (r3, chC cf cl zn 2), (r4, chC cf cl zn 3), (r5, tlC cI tf), (h0, snC n0 k0 g0 sv h1 h2 h7), (h1, tmC tv), (h2, boC h3 h5 bv), (h3, mkC h4), (h4, .inl (cJ, 4, .inr (.inl f))), (h5, mkC h6), (h6, .inl (cJ, 4, .inr (.inl g))), (h7, cuC cv)]) (pl := va_pl L (pf cJ kd pi bd af bo)) [0, 1, 2, 3, 4, 5, 6, 7, 8, 9, 10, 11, 12, 13] rfl
          have hDc := hD.part (X := [(r0, rdC ov (va_rf ol) r1 r2 r3 r4 r5), (r1, chC cf cl zn 0), (r2, chC cf cl zn 1), (r3, chC cf cl zn 2), (r4, chC cf cl zn 3), (r5, tlC cI tf), (h0, snC n0 k0 g0 sv h1 h2 h7), (h1, tmC tv), (h2, boC h3 h5 bv), (h3, mkC h4), (h4, .inl (cJ, 4, .inr (.inl f))), (h5, mkC h6), (h6, .inl (cJ, 4, .inr (.inl g))), (h7, cuC cv)]) (cx := [(r0, rdC ov (va_rf ol) r1 r2 r3 r4 r5), (r1, chC cf cl zn 0), (r2, chC cf cl zn 1), (r3, chC cf cl zn 2), (r4, chC cf cl zn 3), (r5, tlC cI tf), (h0, snC n0 k0 g0 sv h1 h2 h7), (h1, tmC tv), (h2, boC h3 h5 bv), (h3, mkC h4), (h4, .inl (cJ, 4, .inr (.inl f))), (h5, mkC h6), (h6, .inl (cJ, 4, .inr (.inl g))), (h7, cuC cv)]) (pl := va_pl L (pf cJ kd pi bd af bo)) [0, 1, 2, 3, 4, 5, 6, 7, 8, 9, 10, 11, 12, 13] (by decide) rfl
          have hFc := va_freeP (X := [(r0, rdC ov (va_rf ol) r1 r2 r3 r4 r5), (r1, chC cf cl zn 0), (r2, chC cf cl zn 1), (r3, chC cf cl zn 2), (r4, chC cf cl zn 3), (r5, tlC cI tf), (h0, snC n0 k0 g0 sv h1 h2 h7), (h1, tmC tv), (h2, boC h3 h5 bv), (h3, mkC h4), (h4, .inl (cJ, 4, .inr (.inl f))), (h5, mkC h6), (h6, .inl (cJ, 4, .inr (.inl g))), (h7, cuC cv)]) (cx := [(r0, rdC ov (va_rf ol) r1 r2 r3 r4 r5), (r1, chC cf cl zn 0), (r2, chC cf cl zn 1), (r3, chC cf cl zn 2), (r4, chC cf cl zn 3), (r5, tlC cI tf), (h0, snC n0 k0 g0 sv h1 h2 h7), (h1, tmC tv), (h2, boC h3 h5 bv), (h3, mkC h4), (h4, .inl (cJ, 4, .inr (.inl f))), (h5, mkC h6), (h6, .inl (cJ, 4, .inr (.inl g))), (h7, cuC cv)]) (pl := va_pl L (pf cJ kd pi bd af bo)) hD hS hA [0, 1, 2, 3, 4, 5, 6, 7, 8, 9, 10, 11, 12, 13] rfl
          refine W.know2 (fun hka hkb => ?_)
          have hg0 : gr s.heap _ 0 := ⟨hka, hkb⟩
          have hle0 := hS.1
          refine va_callv (va_runV (As := [.ref r0, .int i3]) (rest := []) ⟨hx, hb, hml, hown, ha⟩ (s_beginRec l D cI cJ cZ cO _ r0 r1 r2 r3 r4 r5 ov ol cf cl zn xl tag L kd pi bd af bo go gq gw ga tf h0 h1 h2 h3 h4 h5 h6 h7 n0 k0 g0 sv tv bv cv f g i3 hR hPB hZ hG hJ hT hLK hq0) (cwV 2 ha (gaV kl_X8_107 km_X8_beginRecovery ks_X8_beginRecovery kz_X8 kd_X8_beginRecovery) rfl rfl rfl (by decide +kernel) ⟨Nat.le_of_ble_eq_true rfl, Nat.le_of_ble_eq_true rfl⟩) ⟨pw_blindh, va_recv hK hPc (ci := 8) (q0 := 6) rfl rfl, fun U hU hW => ⟨rfl, pw_starth hU hW hPc hK hDc hN⟩⟩ rfl rfl hl.1 rfl (lv_room (Nat.le_of_ble_eq_true rfl)) dX8_hear_177 ⟨Nat.le_of_ble_eq_true rfl, Nat.le_of_ble_eq_true rfl⟩) hS (fun q _ h => hFc q h) hFc (fun u t H1 locs ht hvm hw hB hz1 hk1 hS => ?_)
          obtain ⟨sv, tv, bv, cv, f, g, ov, tf, ol, cf, cl, zn, xl, tag, L, kd, pi, bd, af, bo, q_177, go, gq, ⟨hf_180, ⟨hG, hJ⟩, hX0, hX1, hX2, hX3, hX4, hX5, hX6, hX7, hX8, hX9⟩, hP1, hK1, hD1⟩ := hB
          have hE := bd_at rfl hE
          have hE := bd_at hX0 hE
          have hE := bd_at hX1 hE
          have hE := bd_at hX2 hE
          have hE := bd_at hX3 hE
          have hE := bd_at hX4 hE
          have hE := bd_at hX5 hE
          have hE := bd_at hX6 hE
          have hE := bd_at hX7 hE
          have hE := bd_at hX8 hE
          have hE := bd_at hX9 hE
          rw [ht] at hP1
          rw [ht] at hf_180
          obtain ⟨hP, hD⟩ := va_joinP (wr := []) (rx := [(r0, rdC ov (va_rf ol) r1 r2 r3 r4 r5), (r1, chC cf cl zn 0), (r2, chC cf cl zn 1), (r3, chC cf cl zn 2), (r4, chC cf cl zn 3), (r5, tlC cI tf), (h0, snC n0 k0 g0 sv h1 h2 h7), (h1, tmC tv), (h2, boC h3 h5 bv), (h3, mkC h4), (h4, .inl (cJ, 4, .inr (.inl f))), (h5, mkC h6), (h6, .inl (cJ, 4, .inr (.inl g))), (h7, cuC cv)]) (pl1 := va_pl L (pf cJ kd pi bd af bo)) hP hD [0, 1, 2, 3, 4, 5, 6, 7, 8, 9, 10, 11, 12, 13] [] rfl rfl (by decide) (by decide) hk1 hFc hP1 hD1
          generalize H1 = H at hP hS hf_180 ⊢
          have hP : va_P D vwCl ([(r0, rdC ov (va_rf ol) r1 r2 r3 r4 r5), (r1, chC cf cl zn 0), (r2, chC cf cl zn 1), (r3, chC cf cl zn 2), (r4, chC cf cl zn 3), (r5, tlC cI tf), (h0, snC n0 k0 g0 sv h1 h2 h7), (h1, tmC tv), (h2, boC h3 h5 bv), (h3, mkC h4), (h4, .inl (cJ, 4, .inr (.inl f))), (h5, mkC h6), (h6, .inl (cJ, 4, .inr (.inl g))), (h7, cuC cv)] ++ va_pl L (pf cJ kd pi bd af bo)) H := hP
          have hD : va_D A ([(r0, rdC ov (va_rf ol) r1 r2 r3 r4 r5), (r1, chC cf cl zn 0), (r2, chC cf cl zn 1), (r3, chC cf cl zn 2), (r4, chC cf cl zn 3), (r5, tlC cI tf), (h0, snC n0 k0 g0 sv h1 h2 h7), (h1, tmC tv), (h2, boC h3 h5 bv), (h3, mkC h4), (h4, .inl (cJ, 4, .inr (.inl f))), (h5, mkC h6), (h6, .inl (cJ, 4, .inr (.inl g))), (h7, cuC cv)] ++ va_pl L (pf cJ kd pi bd af bo)) := hD
          refine W.widen (k := 2) (n := 11) (Nat.le_of_ble_eq_true rfl) (Nat.le_of_ble_eq_true rfl) ?_
          have hR := hf_180.1
          have hPB := hf_180.2.1
          have hZ := hf_180.2.2.1
          have hT := hf_180.2.2.2.1
          have hg0 := gr_trans hle0 hg0 hf_180.2.2.2.2.1
          have hb1 := hf_180.2.2.2.2.2.1
          have hLK := hf_180.2.2.2.2.2.2.1
          have hq0 := (hf_180.2.2.2.2.2.2.2.2.2.2.2 hq0).1
          have hQ := QQ_trans hQ hf_180.2.2.2.2.2.2.2
          refine W.grown hg0 ?_
          refine lv_goto (tgt := 208) hx hb dX8_hear_180 (by decide) ?_
          rw [hQP]
          refine W.know2 (fun hk1 hk2 => ?_)
          have hg0 : gr s.heap _ (0 + q_177) := ⟨hk1, hk2⟩
          refine W.widen (k := 2) (n := 11) (by omega) (by omega) ?_
          have hP9 : va_P D vwCl ([(r0, rdC ov (va_rf ol) r1 r2 r3 r4 r5), (r1, chC cf cl zn 0), (r2, chC cf cl zn 1), (r3, chC cf cl zn 2), (r4, chC cf cl zn 3), (r5, tlC cI tf), (h0, snC n0 k0 g0 sv h1 h2 h7), (h1, tmC tv), (h2, boC h3 h5 bv), (h3, mkC h4), (h4, .inl (cJ, 4, .inr (.inl f))), (h5, mkC h6), (h6, .inl (cJ, 4, .inr (.inl g))), (h7, cuC cv)] ++ va_pl L (pf cJ kd pi bd af bo)) _ := hP
          have hD9 : va_D A ([(r0, rdC ov (va_rf ol) r1 r2 r3 r4 r5), (r1, chC cf cl zn 0), (r2, chC cf cl zn 1), (r3, chC cf cl zn 2), (r4, chC cf cl zn 3), (r5, tlC cI tf), (h0, snC n0 k0 g0 sv h1 h2 h7), (h1, tmC tv), (h2, boC h3 h5 bv), (h3, mkC h4), (h4, .inl (cJ, 4, .inr (.inl f))), (h5, mkC h6), (h6, .inl (cJ, 4, .inr (.inl g))), (h7, cuC cv)] ++ va_pl L (pf cJ kd pi bd af bo)) := hD
          exact W.vret hx hb hr (fun t ht hW => ⟨⟨(), rfl, trivial, ⟨sv, tv, bv, cv, f, g, ov, tf, ol, cf, cl, zn, xl, tag, L, kd, pi, bd, af, bo, (0 + q_177), go, gq, ⟨⟨hR, hPB, hZ, hT, by rw [ht]; exact hg0, by omega, hLK, hQ⟩, ⟨hG, hJ⟩, (by rw [← hRES, hE]), (by rw [← hRES, hE]), (by rw [← hRES, hE]), (by rw [← hRES, hE]), (by rw [← hRES, hE]), (by rw [← hRES, hE]), (by rw [← hRES, hE]), (by rw [← hRES, hE]), (by rw [← hRES, hE]), (by rw [← hRES, hE])⟩, by rw [ht]; exact hP9, va_K.moved hW.alike hK, hD9⟩⟩, hS.F ht⟩) hS.2.2 dX8_hear_208
    · have hE := hE.trans (if_neg c_129)
      refine lv_aload_n hx hb dX8_hear_145 rfl (lv_at hl 0 rfl) ?_
      refine lv_iconst (v := 0) hx hb dX8_hear_146 (by decide) ?_
      refine va_put (D := D) (ci := 8) (v := .int 0) (ty := .int) (C := RX8) (T := TX8) (N := 20) hx hb ha inlX8 tyX8 tyX8_ok nmX8 hown hK hP hD hS 6 rfl rfl 10 (by decide) (ha _ kf_X8_93) (fun _ h9 => h9) rfl (by decide +kernel) rfl rfl (Nat.le_of_ble_eq_true rfl) dX8_hear_147 (fun H locs hP hD hS => ?_)
      have hP : va_P D vwCl ([(r0, rdC ov (va_rf ol) r1 r2 r3 r4 r5), (r1, chC cf cl zn 0), (r2, chC cf cl zn 1), (r3, chC cf cl zn 2), (r4, chC cf cl zn 3), (r5, tlC cI tf), (h0, snC n0 k0 g0 (upd sv 10 0) h1 h2 h7), (h1, tmC tv), (h2, boC h3 h5 bv), (h3, mkC h4), (h4, .inl (cJ, 4, .inr (.inl f))), (h5, mkC h6), (h6, .inl (cJ, 4, .inr (.inl g))), (h7, cuC cv)] ++ va_pl L (pf cJ kd pi bd af bo)) H := hP
      have hD : va_D A ([(r0, rdC ov (va_rf ol) r1 r2 r3 r4 r5), (r1, chC cf cl zn 0), (r2, chC cf cl zn 1), (r3, chC cf cl zn 2), (r4, chC cf cl zn 3), (r5, tlC cI tf), (h0, snC n0 k0 g0 (upd sv 10 0) h1 h2 h7), (h1, tmC tv), (h2, boC h3 h5 bv), (h3, mkC h4), (h4, .inl (cJ, 4, .inr (.inl f))), (h5, mkC h6), (h6, .inl (cJ, 4, .inr (.inl g))), (h7, cuC cv)] ++ va_pl L (pf cJ kd pi bd af bo)) := hD
      generalize hg_181 : upd sv 10 0 = sv at hP hD
      have hE := bs_at hg_181 hE
      refine lv_aload_n hx hb dX8_hear_150 rfl (lv_at hl 0 rfl) ?_
      refine lv_iload_n hx hb dX8_hear_151 rfl (lv_at hl 3 rfl) ?_
      have hPc := hP.sub (ws' := [(h0, snC n0 k0 g0 sv h1 h2 h7), (h1, tmC tv), (h2, boC h3 h5 bv), (h3, mkC h4), (h4, .inl (cJ, 4, .inr (.inl f))), (h5, mkC h6), (h6, .inl (cJ, 4, .inr (.inl g))), (h7, cuC cv)]) [6, 7, 8, 9, 10, 11, 12, 13] rfl
      have hDc := hD.sub (ws' := [(h0, snC n0 k0 g0 sv h1 h2 h7), (h1, tmC tv), (h2, boC h3 h5 bv), (h3, mkC h4), (h4, .inl (cJ, 4, .inr (.inl f))), (h5, mkC h6), (h6, .inl (cJ, 4, .inr (.inl g))), (h7, cuC cv)]) [6, 7, 8, 9, 10, 11, 12, 13] (by decide) rfl
      have hFc := va_free (wc := [(h0, snC n0 k0 g0 sv h1 h2 h7), (h1, tmC tv), (h2, boC h3 h5 bv), (h3, mkC h4), (h4, .inl (cJ, 4, .inr (.inl f))), (h5, mkC h6), (h6, .inl (cJ, 4, .inr (.inl g))), (h7, cuC cv)]) hD hS hA [6, 7, 8, 9, 10, 11, 12, 13] rfl
      refine va_callv (va_runV (As := [.int i3]) (rest := []) ⟨hx, hb, hml, hown, ha⟩ (s_sgrow l D cI cJ cZ cO _ h0 h1 h2 h3 h4 h5 h6 h7 n0 k0 g0 sv tv bv cv f g i3) (cwV 1 ha (gaV kl_X8_96 km_X8_grow ks_X8_grow kz_X8 kd_X8_grow) rfl rfl rfl (by decide +kernel) ⟨Nat.le_of_ble_eq_true rfl, Nat.le_of_ble_eq_true rfl⟩) ⟨pw_blind, va_recv hK hPc (ci := 8) (q0 := 0) rfl rfl, fun U hU hW => ⟨rfl, pw_start hU hW hPc hK hDc hN⟩⟩ rfl rfl hl.1 rfl (lv_room (Nat.le_of_ble_eq_true rfl)) dX8_hear_152 ⟨Nat.le_of_ble_eq_true rfl, Nat.le_of_ble_eq_true rfl⟩) hS (fun q _ h => hFc q h) hFc (fun u t H1 locs ht hvm hw hB hz1 hk1 hS => ?_)
      obtain ⟨sv, tv, bv, cv, f, g, ⟨hX0, hX1, hX2, hX3, hX4, hX5⟩, hP1, hK1, hD1⟩ := hB
      have hE := bd_at rfl hE
      have hE := bd_at hX0 hE
      have hE := bd_at hX1 hE
      have hE := bd_at hX2 hE
      have hE := bd_at hX3 hE
      have hE := bd_at hX4 hE
      have hE := bd_at hX5 hE
      rw [ht] at hP1
      obtain ⟨hP, hD⟩ := va_joinQ (wr := [(r0, rdC ov (va_rf ol) r1 r2 r3 r4 r5), (r1, chC cf cl zn 0), (r2, chC cf cl zn 1), (r3, chC cf cl zn 2), (r4, chC cf cl zn 3), (r5, tlC cI tf)]) (w1 := [(h0, snC n0 k0 g0 sv h1 h2 h7), (h1, tmC tv), (h2, boC h3 h5 bv), (h3, mkC h4), (h4, .inl (cJ, 4, .inr (.inl f))), (h5, mkC h6), (h6, .inl (cJ, 4, .inr (.inl g))), (h7, cuC cv)]) hP hD [6, 7, 8, 9, 10, 11, 12, 13] [0, 1, 2, 3, 4, 5] rfl rfl (by decide) (by decide) hk1 hFc hP1 hD1
      generalize H1 = H at hP hS ⊢
      have hP : va_P D vwCl ([(r0, rdC ov (va_rf ol) r1 r2 r3 r4 r5), (r1, chC cf cl zn 0), (r2, chC cf cl zn 1), (r3, chC cf cl zn 2), (r4, chC cf cl zn 3), (r5, tlC cI tf), (h0, snC n0 k0 g0 sv h1 h2 h7), (h1, tmC tv), (h2, boC h3 h5 bv), (h3, mkC h4), (h4, .inl (cJ, 4, .inr (.inl f))), (h5, mkC h6), (h6, .inl (cJ, 4, .inr (.inl g))), (h7, cuC cv)] ++ va_pl L (pf cJ kd pi bd af bo)) H := hP
      have hD : va_D A ([(r0, rdC ov (va_rf ol) r1 r2 r3 r4 r5), (r1, chC cf cl zn 0), (r2, chC cf cl zn 1), (r3, chC cf cl zn 2), (r4, chC cf cl zn 3), (r5, tlC cI tf), (h0, snC n0 k0 g0 sv h1 h2 h7), (h1, tmC tv), (h2, boC h3 h5 bv), (h3, mkC h4), (h4, .inl (cJ, 4, .inr (.inl f))), (h5, mkC h6), (h6, .inl (cJ, 4, .inr (.inl g))), (h7, cuC cv)] ++ va_pl L (pf cJ kd pi bd af bo)) := hD
      refine W.widen (k := 0) (n := 0) (Nat.le_of_ble_eq_true rfl) (Nat.le_of_ble_eq_true rfl) ?_
      refine lv_goto (tgt := 208) hx hb dX8_hear_155 (by decide) ?_
      rw [hQP]
      refine W.know2 (fun hk1 hk2 => ?_)
      have hg0 : gr s.heap _ 0 := ⟨hk1, hk2⟩
      refine W.widen (k := 2) (n := 11) (Nat.le_of_ble_eq_true rfl) (Nat.le_of_ble_eq_true rfl) ?_
      have hP9 : va_P D vwCl ([(r0, rdC ov (va_rf ol) r1 r2 r3 r4 r5), (r1, chC cf cl zn 0), (r2, chC cf cl zn 1), (r3, chC cf cl zn 2), (r4, chC cf cl zn 3), (r5, tlC cI tf), (h0, snC n0 k0 g0 sv h1 h2 h7), (h1, tmC tv), (h2, boC h3 h5 bv), (h3, mkC h4), (h4, .inl (cJ, 4, .inr (.inl f))), (h5, mkC h6), (h6, .inl (cJ, 4, .inr (.inl g))), (h7, cuC cv)] ++ va_pl L (pf cJ kd pi bd af bo)) _ := hP
      have hD9 : va_D A ([(r0, rdC ov (va_rf ol) r1 r2 r3 r4 r5), (r1, chC cf cl zn 0), (r2, chC cf cl zn 1), (r3, chC cf cl zn 2), (r4, chC cf cl zn 3), (r5, tlC cI tf), (h0, snC n0 k0 g0 sv h1 h2 h7), (h1, tmC tv), (h2, boC h3 h5 bv), (h3, mkC h4), (h4, .inl (cJ, 4, .inr (.inl f))), (h5, mkC h6), (h6, .inl (cJ, 4, .inr (.inl g))), (h7, cuC cv)] ++ va_pl L (pf cJ kd pi bd af bo)) := hD
      exact W.vret hx hb hr (fun t ht hW => ⟨⟨(), rfl, trivial, ⟨sv, tv, bv, cv, f, g, ov, tf, ol, cf, cl, zn, xl, tag, L, kd, pi, bd, af, bo, 0, go, gq, ⟨⟨hR, hPB, hZ, hT, by rw [ht]; exact hg0, by omega, hLK, hQ⟩, ⟨hG, hJ⟩, (by rw [← hRES, hE]), (by rw [← hRES, hE]), (by rw [← hRES, hE]), (by rw [← hRES, hE]), (by rw [← hRES, hE]), (by rw [← hRES, hE]), (by rw [← hRES, hE]), (by rw [← hRES, hE]), (by rw [← hRES, hE]), (by rw [← hRES, hE])⟩, by rw [ht]; exact hP9, va_K.moved hW.alike hK, hD9⟩⟩, hS.F ht⟩) hS.2.2 dX8_hear_208
  have J_117 : ∀ (sv : Nat → Int32) (tv : Nat → Int32) (bv : Nat → Int32) (f : Nat → Int64) (g : Nat → Int64) (cv : Nat → Int32) (H : Heap) (locs : List Loc), va_P D vwCl ([(r0, rdC ov (va_rf ol) r1 r2 r3 r4 r5), (r1, chC cf cl zn 0), (r2, chC cf cl zn 1), (r3, chC cf cl zn 2), (r4, chC cf cl zn 3), (r5, tlC cI tf), (h0, snC n0 k0 g0 sv h1 h2 h7), (h1, tmC tv), (h2, boC h3 h5 bv), (h3, mkC h4), (h4, .inl (cJ, 4, .inr (.inl f))), (h5, mkC h6), (h6, .inl (cJ, 4, .inr (.inl g))), (h7, cuC cv)] ++ va_pl L (pf cJ kd pi bd af bo)) H → va_D A ([(r0, rdC ov (va_rf ol) r1 r2 r3 r4 r5), (r1, chC cf cl zn 0), (r2, chC cf cl zn 1), (r3, chC cf cl zn 2), (r4, chC cf cl zn 3), (r5, tlC cI tf), (h0, snC n0 k0 g0 sv h1 h2 h7), (h1, tmC tv), (h2, boC h3 h5 bv), (h3, mkC h4), (h4, .inl (cJ, 4, .inr (.inl f))), (h5, mkC h6), (h6, .inl (cJ, 4, .inr (.inl g))), (h7, cuC cv)] ++ va_pl L (pf cJ kd pi bd af bo)) → va_S A s.heap H locs → ∀ (i3 : Int32) (i4 : Int32) (i5 : Int32) (i6 : Int32) (ls : Array Slot), lv_has ls 7 [(0, .ref h0), (1, .ref q), (2, .ref r0), (3, .int i3), (4, .int i4), (5, .int i5), (6, .int i6)] → RES = xc_hear_117 ov go gq tf n0 k0 g0 (ca pi bd bo q) n1 sv tv bv f g cv i3 i4 i5 i6 → W p l e ({ frames := 5, cells := 2, slots := 11, locals := 115 }) s m #[(.ref h0 : Value), (.ref q : Value), (.ref r0 : Value), (.int n1 : Value)] below meth c H locs 0 0 QP (F0 m 117 ls []) := by
    intro sv tv bv f g cv H locs hP hD hS i3 i4 i5 i6 ls hl hE
    unfold xc_hear_117 at hE
    refine lv_iload hx hb dX8_hear_117 (lv_at hl 6 rfl) ?_
    refine lv_if_le (tgt := 140) hx hb dX8_hear_119 (by decide) (fun c_190 => ?_) (fun c_190 => ?_)
    · have hE := hE.trans (if_pos c_190)
      exact J_140 sv tv bv f g cv _ _ hP hD hS i3 i4 i5 i6 _ (lv_sub hl [0, 1, 2, 3, 4, 5, 6] rfl) hE
    · have hE := hE.trans (if_neg c_190)
      refine lv_aload_n hx hb dX8_hear_122 rfl (lv_at hl 0 rfl) ?_
      refine va_get (D := D) (ci := 8) (v := .int (sv 11)) (C := RX8) (T := TX8) (N := 20) hx hb ha inlX8 hown hK hP 6 rfl rfl 11 (by decide) (ha _ kf_X8_86) (fun _ h9 => h9) rfl dX8_hear_123 ?_
      refine lv_topi (fun x_191 ex_191 => ?_)
      have hE := bd_at ex_191 hE
      refine lv_if_eq (tgt := 140) hx hb dX8_hear_126 (by decide) (fun c_192 => ?_) (fun c_192 => ?_)
      · have hE := hE.trans (if_pos c_192)
        exact J_140 sv tv bv f g cv _ _ hP hD hS i3 i4 i5 i6 _ (lv_sub hl [0, 1, 2, 3, 4, 5, 6] rfl) hE
      · have hE := hE.trans (if_neg c_192)
        refine lv_aload_n hx hb dX8_hear_129 rfl (lv_at hl 0 rfl) ?_
        refine lv_iload hx hb dX8_hear_130 (lv_at hl 6 rfl) ?_
        refine lv_aload_n hx hb dX8_hear_132 rfl (lv_at hl 2 rfl) ?_
        refine lv_iload_n hx hb dX8_hear_133 rfl (lv_at hl 3 rfl) ?_
        have hPc := hP.part (X := [(r0, rdC ov (va_rf ol) r1 r2 r3 r4 r5), (r1, chC cf cl zn 0), (r2, chC cf cl zn 1), (r3, chC cf cl zn 2), (r4, chC cf cl zn 3), (r5, tlC cI tf), (h0, snC n0 k0 g0 sv h1 h2 h7), (h1, tmC tv), (h2, boC h3 h5 bv), (h3, mkC h4), (h4, .inl (cJ, 4, .inr (.inl f))), (h5, mkC h6), (h6, .inl (cJ, 4, .inr (.inl g))), (h7, cuC cv)]) (cx := [(r0, rdC ov (va_rf ol) r1 r2 r3 r4 r5), (r1, chC cf cl zn 0), (r2, chC cf cl zn 1), (r3, chC cf cl zn 2), (r4, chC cf cl zn 3), (r5, tlC cI tf), (h0, snC n0 k0 g0 sv h1 h2 h7), (h1, tmC tv), (h2, boC h3 h5 bv), (h3, mkC h4), (h4, .inl (cJ, 4, .inr (.inl f))), (h5, mkC h6), (h6, .inl (cJ, 4, .inr (.inl g))), (h7, cuC cv)]) (pl := va_pl L (pf cJ kd pi bd af bo)) [0, 1, 2, 3, 4, 5, 6, 7, 8, 9, 10, 11, 12, 13] rfl
        have hDc := hD.part (X := [(r0, rdC ov (va_rf ol) r1 r2 r3 r4 r5), (r1, chC cf cl zn 0), (r2, chC cf cl zn 1), (r3, chC cf cl zn 2), (r4, chC cf cl zn 3), (r5, tlC cI tf), (h0, snC n0 k0 g0 sv h1 h2 h7), (h1, tmC tv), (h2, boC h3 h5 bv), (h3, mkC h4), (h4, .inl (cJ, 4, .inr (.inl f))), (h5, mkC h6), (h6, .inl (cJ, 4, .inr (.inl g))), (h7, cuC cv)]) (cx := [(r0, rdC ov (va_rf ol) r1 r2 r3 r4 r5), (r1, chC cf cl zn 0), (r2, chC cf cl zn 1), (r3, chC cf cl zn 2), (r4, chC cf cl zn 3), (r5, tlC cI tf), (h0, snC n0 k0 g0 sv h1 h2 h7), (h1, tmC tv), (h2, boC h3 h5 bv), (h3, mkC h4), (h4, .inl (cJ, 4, .inr (.inl f))), (h5, mkC h6), (h6, .inl (cJ, 4, .inr (.inl g))), (h7, cuC cv)]) (pl := va_pl L (pf cJ kd pi bd af bo)) [0, 1, 2, 3, 4, 5, 6, 7, 8, 9, 10, 11, 12, 13] (by decide) rfl
        have hFc := va_freeP (X := [(r0, rdC ov (va_rf ol) r1 r2 r3 r4 r5), (r1, chC cf cl zn 0), (r2, chC cf cl zn 1), (r3, chC cf cl zn 2), (r4, chC cf cl zn 3), (r5, tlC cI tf), (h0, snC n0 k0 g0 sv h1 h2 h7), (h1, tmC tv), (h2, boC h3 h5 bv), (h3, mkC h4), (h4, .inl (cJ, 4, .inr (.inl f))), (h5, mkC h6), (h6, .inl (cJ, 4, .inr (.inl g))), (h7, cuC cv)]) (cx := [(r0, rdC ov (va_rf ol) r1 r2 r3 r4 r5), (r1, chC cf cl zn 0), (r2, chC cf cl zn 1), (r3, chC cf cl zn 2), (r4, chC cf cl zn 3), (r5, tlC cI tf), (h0, snC n0 k0 g0 sv h1 h2 h7), (h1, tmC tv), (h2, boC h3 h5 bv), (h3, mkC h4), (h4, .inl (cJ, 4, .inr (.inl f))), (h5, mkC h6), (h6, .inl (cJ, 4, .inr (.inl g))), (h7, cuC cv)]) (pl := va_pl L (pf cJ kd pi bd af bo)) hD hS hA [0, 1, 2, 3, 4, 5, 6, 7, 8, 9, 10, 11, 12, 13] rfl
        refine W.know2 (fun hka hkb => ?_)
        have hg0 : gr s.heap _ 0 := ⟨hka, hkb⟩
        have hle0 := hS.1
        refine va_callv (va_runV (As := [.int i6, .ref r0, .int i3]) (rest := []) ⟨hx, hb, hml, hown, ha⟩ (s_hearRec l D cI cJ cZ cO _ r0 r1 r2 r3 r4 r5 ov ol cf cl zn xl tag L kd pi bd af bo go gq gw ga tf h0 h1 h2 h3 h4 h5 h6 h7 n0 k0 g0 sv tv bv cv f g i6 i3 hR hPB hZ hG hJ hT hLK hq0) (cwV 3 ha (gaV kl_X8_89 km_X8_hearInRecovery ks_X8_hearInRecovery kz_X8 kd_X8_hearInRecovery) rfl rfl rfl (by decide +kernel) ⟨Nat.le_of_ble_eq_true rfl, Nat.le_of_ble_eq_true rfl⟩) ⟨pw_blindh, va_recv hK hPc (ci := 8) (q0 := 6) rfl rfl, fun U hU hW => ⟨rfl, pw_starth hU hW hPc hK hDc hN⟩⟩ rfl rfl hl.1 rfl (lv_room (Nat.le_of_ble_eq_true rfl)) dX8_hear_134 ⟨Nat.le_of_ble_eq_true rfl, Nat.le_of_ble_eq_true rfl⟩) hS (fun q _ h => hFc q h) hFc (fun u t H1 locs ht hvm hw hB hz1 hk1 hS => ?_)
        obtain ⟨sv, tv, bv, cv, f, g, ov, tf, ol, cf, cl, zn, xl, tag, L, kd, pi, bd, af, bo, q_214, go, gq, ⟨hf_217, ⟨hG, hJ⟩, hX0, hX1, hX2, hX3, hX4, hX5, hX6, hX7, hX8, hX9⟩, hP1, hK1, hD1⟩ := hB
        have hE := bd_at rfl hE
        have hE := bd_at hX0 hE
        have hE := bd_at hX1 hE
        have hE := bd_at hX2 hE
        have hE := bd_at hX3 hE
        have hE := bd_at hX4 hE
        have hE := bd_at hX5 hE
        have hE := bd_at hX6 hE
        have hE := bd_at hX7 hE
        have hE := bd_at hX8 hE
        have hE := bd_at hX9 hE
        rw [ht] at hP1
        rw [ht] at hf_217
        obtain ⟨hP, hD⟩ := va_joinP (wr := []) (rx := [(r0, rdC ov (va_rf ol) r1 r2 r3 r4 r5), (r1, chC cf cl zn 0), (r2, chC cf cl zn 1), (r3, chC cf cl zn 2), (r4, chC cf cl zn 3), (r5, tlC cI tf), (h0, snC n0 k0 g0 sv h1 h2 h7), (h1, tmC tv), (h2, boC h3 h5 bv), (h3, mkC h4), (h4, .inl (cJ, 4, .inr (.inl f))), (h5, mkC h6), (h6, .inl (cJ, 4, .inr (.inl g))), (h7, cuC cv)]) (pl1 := va_pl L (pf cJ kd pi bd af bo)) hP hD [0, 1, 2, 3, 4, 5, 6, 7, 8, 9, 10, 11, 12, 13] [] rfl rfl (by decide) (by decide) hk1 hFc hP1 hD1
        generalize H1 = H at hP hS hf_217 ⊢
        have hP : va_P D vwCl ([(r0, rdC ov (va_rf ol) r1 r2 r3 r4 r5), (r1, chC cf cl zn 0), (r2, chC cf cl zn 1), (r3, chC cf cl zn 2), (r4, chC cf cl zn 3), (r5, tlC cI tf), (h0, snC n0 k0 g0 sv h1 h2 h7), (h1, tmC tv), (h2, boC h3 h5 bv), (h3, mkC h4), (h4, .inl (cJ, 4, .inr (.inl f))), (h5, mkC h6), (h6, .inl (cJ, 4, .inr (.inl g))), (h7, cuC cv)] ++ va_pl L (pf cJ kd pi bd af bo)) H := hP
        have hD : va_D A ([(r0, rdC ov (va_rf ol) r1 r2 r3 r4 r5), (r1, chC cf cl zn 0), (r2, chC cf cl zn 1), (r3, chC cf cl zn 2), (r4, chC cf cl zn 3), (r5, tlC cI tf), (h0, snC n0 k0 g0 sv h1 h2 h7), (h1, tmC tv), (h2, boC h3 h5 bv), (h3, mkC h4), (h4, .inl (cJ, 4, .inr (.inl f))), (h5, mkC h6), (h6, .inl (cJ, 4, .inr (.inl g))), (h7, cuC cv)] ++ va_pl L (pf cJ kd pi bd af bo)) := hD
        refine W.widen (k := 2) (n := 11) (Nat.le_of_ble_eq_true rfl) (Nat.le_of_ble_eq_true rfl) ?_
        have hR := hf_217.1
        have hPB := hf_217.2.1
        have hZ := hf_217.2.2.1
        have hT := hf_217.2.2.2.1
        have hg0 := gr_trans hle0 hg0 hf_217.2.2.2.2.1
        have hb1 := hf_217.2.2.2.2.2.1
        have hLK := hf_217.2.2.2.2.2.2.1
        have hq0 := (hf_217.2.2.2.2.2.2.2.2.2.2.2 hq0).1
        have hQ := QQ_trans hQ hf_217.2.2.2.2.2.2.2
        refine W.grown hg0 ?_
        refine lv_goto (tgt := 208) hx hb dX8_hear_137 (by decide) ?_
        rw [hQP]
        refine W.know2 (fun hk1 hk2 => ?_)
        have hg0 : gr s.heap _ (0 + q_214) := ⟨hk1, hk2⟩
        refine W.widen (k := 2) (n := 11) (by omega) (by omega) ?_
        have hP9 : va_P D vwCl ([(r0, rdC ov (va_rf ol) r1 r2 r3 r4 r5), (r1, chC cf cl zn 0), (r2, chC cf cl zn 1), (r3, chC cf cl zn 2), (r4, chC cf cl zn 3), (r5, tlC cI tf), (h0, snC n0 k0 g0 sv h1 h2 h7), (h1, tmC tv), (h2, boC h3 h5 bv), (h3, mkC h4), (h4, .inl (cJ, 4, .inr (.inl f))), (h5, mkC h6), (h6, .inl (cJ, 4, .inr (.inl g))), (h7, cuC cv)] ++ va_pl L (pf cJ kd pi bd af bo)) _ := hP
        have hD9 : va_D A ([(r0, rdC ov (va_rf ol) r1 r2 r3 r4 r5), (r1, chC cf cl zn 0), (r2, chC cf cl zn 1), (r3, chC cf cl zn 2), (r4, chC cf cl zn 3), (r5, tlC cI tf), (h0, snC n0 k0 g0 sv h1 h2 h7), (h1, tmC tv), (h2, boC h3 h5 bv), (h3, mkC h4), (h4, .inl (cJ, 4, .inr (.inl f))), (h5, mkC h6), (h6, .inl (cJ, 4, .inr (.inl g))), (h7, cuC cv)] ++ va_pl L (pf cJ kd pi bd af bo)) := hD
        exact W.vret hx hb hr (fun t ht hW => ⟨⟨(), rfl, trivial, ⟨sv, tv, bv, cv, f, g, ov, tf, ol, cf, cl, zn, xl, tag, L, kd, pi, bd, af, bo, (0 + q_214), go, gq, ⟨⟨hR, hPB, hZ, hT, by rw [ht]; exact hg0, by omega, hLK, hQ⟩, ⟨hG, hJ⟩, (by rw [← hRES, hE]), (by rw [← hRES, hE]), (by rw [← hRES, hE]), (by rw [← hRES, hE]), (by rw [← hRES, hE]), (by rw [← hRES, hE]), (by rw [← hRES, hE]), (by rw [← hRES, hE]), (by rw [← hRES, hE]), (by rw [← hRES, hE])⟩, by rw [ht]; exact hP9, va_K.moved hW.alike hK, hD9⟩⟩, hS.F ht⟩) hS.2.2 dX8_hear_208
  have J_90 : ∀ (sv : Nat → Int32) (tv : Nat → Int32) (bv : Nat → Int32) (f : Nat → Int64) (g : Nat → Int64) (cv : Nat → Int32) (H : Heap) (locs : List Loc), va_P D vwCl ([(r0, rdC ov (va_rf ol) r1 r2 r3 r4 r5), (r1, chC cf cl zn 0), (r2, chC cf cl zn 1), (r3, chC cf cl zn 2), (r4, chC cf cl zn 3), (r5, tlC cI tf), (h0, snC n0 k0 g0 sv h1 h2 h7), (h1, tmC tv), (h2, boC h3 h5 bv), (h3, mkC h4), (h4, .inl (cJ, 4, .inr (.inl f))), (h5, mkC h6), (h6, .inl (cJ, 4, .inr (.inl g))), (h7, cuC cv)] ++ va_pl L (pf cJ kd pi bd af bo)) H → va_D A ([(r0, rdC ov (va_rf ol) r1 r2 r3 r4 r5), (r1, chC cf cl zn 0), (r2, chC cf cl zn 1), (r3, chC cf cl zn 2), (r4, chC cf cl zn 3), (r5, tlC cI tf), (h0, snC n0 k0 g0 sv h1 h2 h7), (h1, tmC tv), (h2, boC h3 h5 bv), (h3, mkC h4), (h4, .inl (cJ, 4, .inr (.inl f))), (h5, mkC h6), (h6, .inl (cJ, 4, .inr (.inl g))), (h7, cuC cv)] ++ va_pl L (pf cJ kd pi bd af bo)) → va_S A s.heap H locs → ∀ (i3 : Int32) (i4 : Int32) (i5 : Int32) (i6 : Int32) (ls : Array Slot), lv_has ls 7 [(0, .ref h0), (1, .ref q), (2, .ref r0), (3, .int i3), (4, .int i4), (5, .int i5), (6, .int i6)] → RES = xc_hear_90 ov go gq tf n0 k0 g0 (ca pi bd bo q) n1 sv tv bv f g cv i3 i4 i5 i6 → W p l e ({ frames := 5, cells := 2, slots := 11, locals := 115 }) s m #[(.ref h0 : Value), (.ref q : Value), (.ref r0 : Value), (.int n1 : Value)] below meth c H locs 0 0 QP (F0 m 90 ls []) := by
    intro sv tv bv f g cv H locs hP hD hS i3 i4 i5 i6 ls hl hE
    unfold xc_hear_90 at hE
    refine lv_aload_n hx hb dX8_hear_90 rfl (lv_at hl 0 rfl) ?_
    refine va_get (D := D) (ci := 8) (v := .int k0) (C := RX8) (T := TX8) (N := 20) hx hb ha inlX8 hown hK hP 6 rfl rfl 1 (by decide) (ha _ kf_X8_49) (fun _ h9 => h9) rfl dX8_hear_91 ?_
    refine lv_iconst (v := 3) hx hb dX8_hear_94 (by decide) ?_
    refine lv_icmp_ne (tgt := 117) hx hb dX8_hear_95 (by decide) (fun c_218 => ?_) (fun c_218 => ?_)
    · have hE := hE.trans (if_neg c_218)
      exact J_117 sv tv bv f g cv _ _ hP hD hS i3 i4 i5 i6 _ (lv_sub hl [0, 1, 2, 3, 4, 5, 6] rfl) hE
    · have hE := hE.trans (if_pos c_218)
      refine lv_aload_n hx hb dX8_hear_98 rfl (lv_at hl 0 rfl) ?_
      refine va_get (D := D) (ci := 8) (v := .ref h2) (C := RX8) (T := TX8) (N := 20) hx hb ha inlX8 hown hK hP 6 rfl rfl 18 (by decide) (ha _ kf_X8_35) (fun _ h9 => h9) rfl dX8_hear_99 ?_
      refine lv_aload_n hx hb dX8_hear_102 rfl (lv_at hl 1 rfl) ?_
      obtain ⟨k_219, hk_219⟩ := va_pl_get (X := [(r0, rdC ov (va_rf ol) r1 r2 r3 r4 r5), (r1, chC cf cl zn 0), (r2, chC cf cl zn 1), (r3, chC cf cl zn 2), (r4, chC cf cl zn 3), (r5, tlC cI tf), (h0, snC n0 k0 g0 sv h1 h2 h7), (h1, tmC tv), (h2, boC h3 h5 bv), (h3, mkC h4), (h4, .inl (cJ, 4, .inr (.inl f))), (h5, mkC h6), (h6, .inl (cJ, 4, .inr (.inl g))), (h7, cuC cv)]) (f := pf cJ kd pi bd af bo) m_q
      refine va_getN (D := D) (ci := 5) (v := .ref (bd q)) (C := RX5) (T := TX5) (N := 7) hx hb ha inlX5 hown hK hP k_219 (hk_219.trans (congrArg (fun z => some (q, z)) (pf_p k_q))) rfl 5 (by decide) (va_Nw.use rfl (hN.f RX8 76 "CongestionBench$Parcel" "board" "[J" "CongestionBench" (by decide +kernel))) (fun _ h9 => h9) rfl dX8_hear_103 ?_
      refine lv_aload_n hx hb dX8_hear_106 rfl (lv_at hl 0 rfl) ?_
      refine va_get (D := D) (ci := 8) (v := .int (sv 3)) (C := RX8) (T := TX8) (N := 20) hx hb ha inlX8 hown hK hP 6 rfl rfl 3 (by decide) (ha _ kf_X8_59) (fun _ h9 => h9) rfl dX8_hear_107 ?_
      refine lv_topi (fun x_220 ex_220 => ?_)
      have hE := bd_at ex_220 hE
      refine lv_aload_n hx hb dX8_hear_110 rfl (lv_at hl 0 rfl) ?_
      refine va_get (D := D) (ci := 8) (v := .int (sv 5)) (C := RX8) (T := TX8) (N := 20) hx hb ha inlX8 hown hK hP 6 rfl rfl 5 (by decide) (ha _ kf_X8_79) (fun _ h9 => h9) rfl dX8_hear_111 ?_
      refine lv_topi (fun x_221 ex_221 => ?_)
      have hE := bd_at ex_221 hE
      have hPc := hP.part (X := [(r0, rdC ov (va_rf ol) r1 r2 r3 r4 r5), (r1, chC cf cl zn 0), (r2, chC cf cl zn 1), (r3, chC cf cl zn 2), (r4, chC cf cl zn 3), (r5, tlC cI tf), (h0, snC n0 k0 g0 sv h1 h2 h7), (h1, tmC tv), (h2, boC h3 h5 bv), (h3, mkC h4), (h4, .inl (cJ, 4, .inr (.inl f))), (h5, mkC h6), (h6, .inl (cJ, 4, .inr (.inl g))), (h7, cuC cv)]) (cx := [(h2, boC h3 h5 bv), (h3, mkC h4), (h4, .inl (cJ, 4, .inr (.inl f))), (h5, mkC h6), (h6, .inl (cJ, 4, .inr (.inl g)))]) (pl := va_pl L (pf cJ kd pi bd af bo)) [8, 9, 10, 11, 12] rfl
      have hDc := hD.part (X := [(r0, rdC ov (va_rf ol) r1 r2 r3 r4 r5), (r1, chC cf cl zn 0), (r2, chC cf cl zn 1), (r3, chC cf cl zn 2), (r4, chC cf cl zn 3), (r5, tlC cI tf), (h0, snC n0 k0 g0 sv h1 h2 h7), (h1, tmC tv), (h2, boC h3 h5 bv), (h3, mkC h4), (h4, .inl (cJ, 4, .inr (.inl f))), (h5, mkC h6), (h6, .inl (cJ, 4, .inr (.inl g))), (h7, cuC cv)]) (cx := [(h2, boC h3 h5 bv), (h3, mkC h4), (h4, .inl (cJ, 4, .inr (.inl f))), (h5, mkC h6), (h6, .inl (cJ, 4, .inr (.inl g)))]) (pl := va_pl L (pf cJ kd pi bd af bo)) [8, 9, 10, 11, 12] (by decide) rfl
      have hFc := va_freeP (X := [(r0, rdC ov (va_rf ol) r1 r2 r3 r4 r5), (r1, chC cf cl zn 0), (r2, chC cf cl zn 1), (r3, chC cf cl zn 2), (r4, chC cf cl zn 3), (r5, tlC cI tf), (h0, snC n0 k0 g0 sv h1 h2 h7), (h1, tmC tv), (h2, boC h3 h5 bv), (h3, mkC h4), (h4, .inl (cJ, 4, .inr (.inl f))), (h5, mkC h6), (h6, .inl (cJ, 4, .inr (.inl g))), (h7, cuC cv)]) (cx := [(h2, boC h3 h5 bv), (h3, mkC h4), (h4, .inl (cJ, 4, .inr (.inl f))), (h5, mkC h6), (h6, .inl (cJ, 4, .inr (.inl g)))]) (pl := va_pl L (pf cJ kd pi bd af bo)) hD hS hA [8, 9, 10, 11, 12] rfl
      refine va_callv (va_runV (As := [.ref (bd q), .int x_220, .int x_221]) (rest := []) ⟨hx, hb, hml, hown, ha⟩ (s_blearnP l D cI cJ cZ cO _ h2 h3 h4 h5 h6 (bd q) bv f g L kd pi bd af bo x_220 x_221 (hPB q m_q k_q).1 (hPB q m_q k_q).2.1) (cwV 3 ha (gaV kl_X8_82 km_X0_learn ks_X0_learn kz_X0 kd_X0_learn) rfl rfl rfl (by decide +kernel) ⟨Nat.le_of_ble_eq_true rfl, Nat.le_of_ble_eq_true rfl⟩) ⟨pw_blind, va_recv hK hPc (ci := 0) (q0 := 0) rfl rfl, fun U hU hW => ⟨rfl, pw_start hU hW hPc hK hDc hN⟩⟩ rfl rfl hl.1 rfl (lv_room (Nat.le_of_ble_eq_true rfl)) dX8_hear_114 ⟨Nat.le_of_ble_eq_true rfl, Nat.le_of_ble_eq_true rfl⟩) hS (fun q _ h => hFc q h) hFc (fun u t H1 locs ht hvm hw hB hz1 hk1 hS => ?_)
      obtain ⟨bv, f, g, ⟨hX0, hX1, hX2⟩, hP1, hK1, hD1⟩ := hB
      have hE := bd_at rfl hE
      have hE := bd_at hX0 hE
      have hE := bd_at hX1 hE
      have hE := bd_at hX2 hE
      rw [ht] at hP1
      obtain ⟨hP, hD⟩ := va_joinP (wr := [(r0, rdC ov (va_rf ol) r1 r2 r3 r4 r5), (r1, chC cf cl zn 0), (r2, chC cf cl zn 1), (r3, chC cf cl zn 2), (r4, chC cf cl zn 3), (r5, tlC cI tf), (h0, snC n0 k0 g0 sv h1 h2 h7), (h1, tmC tv), (h7, cuC cv)]) (rx := [(h2, boC h3 h5 bv), (h3, mkC h4), (h4, .inl (cJ, 4, .inr (.inl f))), (h5, mkC h6), (h6, .inl (cJ, 4, .inr (.inl g)))]) (pl1 := va_pl L (pf cJ kd pi bd af bo)) hP hD [8, 9, 10, 11, 12] [0, 1, 2, 3, 4, 5, 6, 7, 13] rfl rfl (by decide) (by decide) hk1 hFc hP1 hD1
      generalize H1 = H at hP hS ⊢
      have hP : va_P D vwCl ([(r0, rdC ov (va_rf ol) r1 r2 r3 r4 r5), (r1, chC cf cl zn 0), (r2, chC cf cl zn 1), (r3, chC cf cl zn 2), (r4, chC cf cl zn 3), (r5, tlC cI tf), (h0, snC n0 k0 g0 sv h1 h2 h7), (h1, tmC tv), (h7, cuC cv), (h2, boC h3 h5 bv), (h3, mkC h4), (h4, .inl (cJ, 4, .inr (.inl f))), (h5, mkC h6), (h6, .inl (cJ, 4, .inr (.inl g)))] ++ va_pl L (pf cJ kd pi bd af bo)) H := hP
      have hD : va_D A ([(r0, rdC ov (va_rf ol) r1 r2 r3 r4 r5), (r1, chC cf cl zn 0), (r2, chC cf cl zn 1), (r3, chC cf cl zn 2), (r4, chC cf cl zn 3), (r5, tlC cI tf), (h0, snC n0 k0 g0 sv h1 h2 h7), (h1, tmC tv), (h7, cuC cv), (h2, boC h3 h5 bv), (h3, mkC h4), (h4, .inl (cJ, 4, .inr (.inl f))), (h5, mkC h6), (h6, .inl (cJ, 4, .inr (.inl g)))] ++ va_pl L (pf cJ kd pi bd af bo)) := hD
      refine W.widen (k := 0) (n := 0) (Nat.le_of_ble_eq_true rfl) (Nat.le_of_ble_eq_true rfl) ?_
      exact J_117 sv tv bv f g cv _ _ (hP.part (X := [(r0, rdC ov (va_rf ol) r1 r2 r3 r4 r5), (r1, chC cf cl zn 0), (r2, chC cf cl zn 1), (r3, chC cf cl zn 2), (r4, chC cf cl zn 3), (r5, tlC cI tf), (h0, snC n0 k0 g0 sv h1 h2 h7), (h1, tmC tv), (h7, cuC cv), (h2, boC h3 h5 bv), (h3, mkC h4), (h4, .inl (cJ, 4, .inr (.inl f))), (h5, mkC h6), (h6, .inl (cJ, 4, .inr (.inl g)))]) (cx := [(r0, rdC ov (va_rf ol) r1 r2 r3 r4 r5), (r1, chC cf cl zn 0), (r2, chC cf cl zn 1), (r3, chC cf cl zn 2), (r4, chC cf cl zn 3), (r5, tlC cI tf), (h0, snC n0 k0 g0 sv h1 h2 h7), (h1, tmC tv), (h2, boC h3 h5 bv), (h3, mkC h4), (h4, .inl (cJ, 4, .inr (.inl f))), (h5, mkC h6), (h6, .inl (cJ, 4, .inr (.inl g))), (h7, cuC cv)]) (pl := va_pl L (pf cJ kd pi bd af bo)) [0, 1, 2, 3, 4, 5, 6, 7, 9, 10, 11, 12, 13, 8] rfl) (hD.part (X := [(r0, rdC ov (va_rf ol) r1 r2 r3 r4 r5), (r1, chC cf cl zn 0), (r2, chC cf cl zn 1), (r3, chC cf cl zn 2), (r4, chC cf cl zn 3), (r5, tlC cI tf), (h0, snC n0 k0 g0 sv h1 h2 h7), (h1, tmC tv), (h7, cuC cv), (h2, boC h3 h5 bv), (h3, mkC h4), (h4, .inl (cJ, 4, .inr (.inl f))), (h5, mkC h6), (h6, .inl (cJ, 4, .inr (.inl g)))]) (cx := [(r0, rdC ov (va_rf ol) r1 r2 r3 r4 r5), (r1, chC cf cl zn 0), (r2, chC cf cl zn 1), (r3, chC cf cl zn 2), (r4, chC cf cl zn 3), (r5, tlC cI tf), (h0, snC n0 k0 g0 sv h1 h2 h7), (h1, tmC tv), (h2, boC h3 h5 bv), (h3, mkC h4), (h4, .inl (cJ, 4, .inr (.inl f))), (h5, mkC h6), (h6, .inl (cJ, 4, .inr (.inl g))), (h7, cuC cv)]) (pl := va_pl L (pf cJ kd pi bd af bo)) [0, 1, 2, 3, 4, 5, 6, 7, 9, 10, 11, 12, 13, 8] (by decide) rfl) hS i3 i4 i5 i6 _ (lv_sub hl [0, 1, 2, 3, 4, 5, 6] rfl) hE
  have J_59 : ∀ (sv : Nat → Int32) (tv : Nat → Int32) (bv : Nat → Int32) (f : Nat → Int64) (g : Nat → Int64) (cv : Nat → Int32) (H : Heap) (locs : List Loc), va_P D vwCl ([(r0, rdC ov (va_rf ol) r1 r2 r3 r4 r5), (r1, chC cf cl zn 0), (r2, chC cf cl zn 1), (r3, chC cf cl zn 2), (r4, chC cf cl zn 3), (r5, tlC cI tf), (h0, snC n0 k0 g0 sv h1 h2 h7), (h1, tmC tv), (h2, boC h3 h5 bv), (h3, mkC h4), (h4, .inl (cJ, 4, .inr (.inl f))), (h5, mkC h6), (h6, .inl (cJ, 4, .inr (.inl g))), (h7, cuC cv)] ++ va_pl L (pf cJ kd pi bd af bo)) H → va_D A ([(r0, rdC ov (va_rf ol) r1 r2 r3 r4 r5), (r1, chC cf cl zn 0), (r2, chC cf cl zn 1), (r3, chC cf cl zn 2), (r4, chC cf cl zn 3), (r5, tlC cI tf), (h0, snC n0 k0 g0 sv h1 h2 h7), (h1, tmC tv), (h2, boC h3 h5 bv), (h3, mkC h4), (h4, .inl (cJ, 4, .inr (.inl f))), (h5, mkC h6), (h6, .inl (cJ, 4, .inr (.inl g))), (h7, cuC cv)] ++ va_pl L (pf cJ kd pi bd af bo)) → va_S A s.heap H locs → ∀ (i3 : Int32) (i4 : Int32) (s0 : Int32) (ls : Array Slot), lv_has ls 7 [(0, .ref h0), (1, .ref q), (2, .ref r0), (3, .int i3), (4, .int i4)] → RES = xc_hear_59 ov go gq tf n0 k0 g0 (ca pi bd bo q) n1 sv tv bv f g cv i3 i4 s0 → W p l e ({ frames := 5, cells := 2, slots := 11, locals := 115 }) s m #[(.ref h0 : Value), (.ref q : Value), (.ref r0 : Value), (.int n1 : Value)] below meth c H locs 0 0 QP (F0 m 59 ls [.int s0]) := by
    intro sv tv bv f g cv H locs hP hD hS i3 i4 s0 ls hl hE
    unfold xc_hear_59 at hE
    refine lv_istore (lv' := [(5, .int s0), (0, .ref h0), (1, .ref q), (2, .ref r0), (3, .int i3), (4, .int i4)]) hx hb dX8_hear_59 hl (by decide) rfl (fun ls hl => ?_)
    refine lv_iload hx hb dX8_hear_61 (lv_at hl 5 rfl) ?_
    refine lv_aload_n hx hb dX8_hear_63 rfl (lv_at hl 1 rfl) ?_
    refine va_get (D := D) (ci := 8) (v := .int (sv 3)) (C := RX8) (T := TX8) (N := 20) hx hb ha inlX8 hown hK hP 6 rfl rfl 3 (by decide) (ha _ kf_X8_59) (fun _ h9 => h9) rfl dX8_hear_64 ?_
    refine lv_topi (fun x_227 ex_227 => ?_)
    have hE := bd_at ex_227 hE
    refine lv_isub hx hb dX8_hear_67 ?_
    refine lv_topi (fun x_228 ex_228 => ?_)
    have hE := bd_at ex_228 hE
    refine lv_istore (lv' := [(6, .int x_228), (5, .int s0), (0, .ref h0), (1, .ref q), (2, .ref r0), (3, .int i3), (4, .int i4)]) hx hb dX8_hear_68 hl (by decide) rfl (fun ls hl => ?_)
    refine lv_aload_n hx hb dX8_hear_70 rfl (lv_at hl 2 rfl) ?_
    refine lv_aload_n hx hb dX8_hear_71 rfl (lv_at hl 3 rfl) ?_
    obtain ⟨k_229, hk_229⟩ := va_pl_get (X := [(r0, rdC ov (va_rf ol) r1 r2 r3 r4 r5), (r1, chC cf cl zn 0), (r2, chC cf cl zn 1), (r3, chC cf cl zn 2), (r4, chC cf cl zn 3), (r5, tlC cI tf), (h0, snC n0 k0 g0 sv h1 h2 h7), (h1, tmC tv), (h2, boC h3 h5 bv), (h3, mkC h4), (h4, .inl (cJ, 4, .inr (.inl f))), (h5, mkC h6), (h6, .inl (cJ, 4, .inr (.inl g))), (h7, cuC cv)]) (f := pf cJ kd pi bd af bo) m_q
    refine va_getN (D := D) (ci := 5) (v := .int (pi 4 q)) (C := RX5) (T := TX5) (N := 7) hx hb ha inlX5 hown hK hP k_229 (hk_229.trans (congrArg (fun z => some (q, z)) (pf_p k_q))) rfl 4 (by decide) (va_Nw.use rfl (hN.f RX8 62 "CongestionBench$Parcel" "window" "I" "CongestionBench" (by decide +kernel))) (fun _ h9 => h9) rfl dX8_hear_72 ?_
    refine lv_topi (fun x_230 ex_230 => ?_)
    have hE := bd_at ex_230 hE
    refine va_put (D := D) (ci := 8) (v := .int x_230) (ty := .int) (C := RX8) (T := TX8) (N := 20) hx hb ha inlX8 tyX8 tyX8_ok nmX8 hown hK hP hD hS 6 rfl rfl 9 (by decide) (ha _ kf_X8_22) (fun _ h9 => h9) rfl (by decide +kernel) rfl rfl (Nat.le_of_ble_eq_true rfl) dX8_hear_75 (fun H locs hP hD hS => ?_)
    have hP : va_P D vwCl ([(r0, rdC ov (va_rf ol) r1 r2 r3 r4 r5), (r1, chC cf cl zn 0), (r2, chC cf cl zn 1), (r3, chC cf cl zn 2), (r4, chC cf cl zn 3), (r5, tlC cI tf), (h0, snC n0 k0 g0 (upd sv 9 x_230) h1 h2 h7), (h1, tmC tv), (h2, boC h3 h5 bv), (h3, mkC h4), (h4, .inl (cJ, 4, .inr (.inl f))), (h5, mkC h6), (h6, .inl (cJ, 4, .inr (.inl g))), (h7, cuC cv)] ++ va_pl L (pf cJ kd pi bd af bo)) H := hP
    have hD : va_D A ([(r0, rdC ov (va_rf ol) r1 r2 r3 r4 r5), (r1, chC cf cl zn 0), (r2, chC cf cl zn 1), (r3, chC cf cl zn 2), (r4, chC cf cl zn 3), (r5, tlC cI tf), (h0, snC n0 k0 g0 (upd sv 9 x_230) h1 h2 h7), (h1, tmC tv), (h2, boC h3 h5 bv), (h3, mkC h4), (h4, .inl (cJ, 4, .inr (.inl f))), (h5, mkC h6), (h6, .inl (cJ, 4, .inr (.inl g))), (h7, cuC cv)] ++ va_pl L (pf cJ kd pi bd af bo)) := hD
    generalize hg_231 : upd sv 9 x_230 = sv at hP hD
    have hE := bs_at hg_231 hE
    refine lv_iload hx hb dX8_hear_78 (lv_at hl 0 rfl) ?_
    refine lv_if_le (tgt := 90) hx hb dX8_hear_80 (by decide) (fun c_232 => ?_) (fun c_232 => ?_)
    · have hE := hE.trans (if_pos c_232)
      exact J_90 sv tv bv f g cv _ _ hP hD hS i3 i4 s0 x_228 _ (lv_sub hl [2, 3, 4, 5, 6, 1, 0] rfl) hE
    · have hE := hE.trans (if_neg c_232)
      refine lv_aload_n hx hb dX8_hear_83 rfl (lv_at hl 2 rfl) ?_
      refine lv_iload hx hb dX8_hear_84 (lv_at hl 0 rfl) ?_
      refine lv_iload_n hx hb dX8_hear_86 rfl (lv_at hl 5 rfl) ?_
      have hPc := hP.sub (ws' := [(h0, snC n0 k0 g0 sv h1 h2 h7), (h1, tmC tv), (h2, boC h3 h5 bv), (h3, mkC h4), (h4, .inl (cJ, 4, .inr (.inl f))), (h5, mkC h6), (h6, .inl (cJ, 4, .inr (.inl g))), (h7, cuC cv)]) [6, 7, 8, 9, 10, 11, 12, 13] rfl
      have hDc := hD.sub (ws' := [(h0, snC n0 k0 g0 sv h1 h2 h7), (h1, tmC tv), (h2, boC h3 h5 bv), (h3, mkC h4), (h4, .inl (cJ, 4, .inr (.inl f))), (h5, mkC h6), (h6, .inl (cJ, 4, .inr (.inl g))), (h7, cuC cv)]) [6, 7, 8, 9, 10, 11, 12, 13] (by decide) rfl
      have hFc := va_free (wc := [(h0, snC n0 k0 g0 sv h1 h2 h7), (h1, tmC tv), (h2, boC h3 h5 bv), (h3, mkC h4), (h4, .inl (cJ, 4, .inr (.inl f))), (h5, mkC h6), (h6, .inl (cJ, 4, .inr (.inl g))), (h7, cuC cv)]) hD hS hA [6, 7, 8, 9, 10, 11, 12, 13] rfl
      refine va_callv (va_runV (As := [.int x_228, .int i3]) (rest := []) ⟨hx, hb, hml, hown, ha⟩ (s_sgoOn l D cI cJ cZ cO _ h0 h1 h2 h3 h4 h5 h6 h7 n0 k0 g0 sv tv bv cv f g x_228 i3) (cwV 2 ha (gaV kl_X8_72 km_X8_goOn ks_X8_goOn kz_X8 kd_X8_goOn) rfl rfl rfl (by decide +kernel) ⟨Nat.le_of_ble_eq_true rfl, Nat.le_of_ble_eq_true rfl⟩) ⟨pw_blind, va_recv hK hPc (ci := 8) (q0 := 0) rfl rfl, fun U hU hW => ⟨rfl, pw_start hU hW hPc hK hDc hN⟩⟩ rfl rfl hl.1 rfl (lv_room (Nat.le_of_ble_eq_true rfl)) dX8_hear_87 ⟨Nat.le_of_ble_eq_true rfl, Nat.le_of_ble_eq_true rfl⟩) hS (fun q _ h => hFc q h) hFc (fun u t H1 locs ht hvm hw hB hz1 hk1 hS => ?_)
      obtain ⟨sv, tv, bv, cv, f, g, ⟨hX0, hX1, hX2, hX3, hX4, hX5⟩, hP1, hK1, hD1⟩ := hB
      have hE := bd_at rfl hE
      have hE := bd_at hX0 hE
      have hE := bd_at hX1 hE
      have hE := bd_at hX2 hE
      have hE := bd_at hX3 hE
      have hE := bd_at hX4 hE
      have hE := bd_at hX5 hE
      rw [ht] at hP1
      obtain ⟨hP, hD⟩ := va_joinQ (wr := [(r0, rdC ov (va_rf ol) r1 r2 r3 r4 r5), (r1, chC cf cl zn 0), (r2, chC cf cl zn 1), (r3, chC cf cl zn 2), (r4, chC cf cl zn 3), (r5, tlC cI tf)]) (w1 := [(h0, snC n0 k0 g0 sv h1 h2 h7), (h1, tmC tv), (h2, boC h3 h5 bv), (h3, mkC h4), (h4, .inl (cJ, 4, .inr (.inl f))), (h5, mkC h6), (h6, .inl (cJ, 4, .inr (.inl g))), (h7, cuC cv)]) hP hD [6, 7, 8, 9, 10, 11, 12, 13] [0, 1, 2, 3, 4, 5] rfl rfl (by decide) (by decide) hk1 hFc hP1 hD1
      generalize H1 = H at hP hS ⊢
      have hP : va_P D vwCl ([(r0, rdC ov (va_rf ol) r1 r2 r3 r4 r5), (r1, chC cf cl zn 0), (r2, chC cf cl zn 1), (r3, chC cf cl zn 2), (r4, chC cf cl zn 3), (r5, tlC cI tf), (h0, snC n0 k0 g0 sv h1 h2 h7), (h1, tmC tv), (h2, boC h3 h5 bv), (h3, mkC h4), (h4, .inl (cJ, 4, .inr (.inl f))), (h5, mkC h6), (h6, .inl (cJ, 4, .inr (.inl g))), (h7, cuC cv)] ++ va_pl L (pf cJ kd pi bd af bo)) H := hP
      have hD : va_D A ([(r0, rdC ov (va_rf ol) r1 r2 r3 r4 r5), (r1, chC cf cl zn 0), (r2, chC cf cl zn 1), (r3, chC cf cl zn 2), (r4, chC cf cl zn 3), (r5, tlC cI tf), (h0, snC n0 k0 g0 sv h1 h2 h7), (h1, tmC tv), (h2, boC h3 h5 bv), (h3, mkC h4), (h4, .inl (cJ, 4, .inr (.inl f))), (h5, mkC h6), (h6, .inl (cJ, 4, .inr (.inl g))), (h7, cuC cv)] ++ va_pl L (pf cJ kd pi bd af bo)) := hD
      refine W.widen (k := 0) (n := 0) (Nat.le_of_ble_eq_true rfl) (Nat.le_of_ble_eq_true rfl) ?_
      exact J_90 sv tv bv f g cv _ _ hP hD hS i3 i4 s0 x_228 _ (lv_sub hl [2, 3, 4, 5, 6, 1, 0] rfl) hE
  have J_58 : ∀ (sv : Nat → Int32) (tv : Nat → Int32) (bv : Nat → Int32) (f : Nat → Int64) (g : Nat → Int64) (cv : Nat → Int32) (H : Heap) (locs : List Loc), va_P D vwCl ([(r0, rdC ov (va_rf ol) r1 r2 r3 r4 r5), (r1, chC cf cl zn 0), (r2, chC cf cl zn 1), (r3, chC cf cl zn 2), (r4, chC cf cl zn 3), (r5, tlC cI tf), (h0, snC n0 k0 g0 sv h1 h2 h7), (h1, tmC tv), (h2, boC h3 h5 bv), (h3, mkC h4), (h4, .inl (cJ, 4, .inr (.inl f))), (h5, mkC h6), (h6, .inl (cJ, 4, .inr (.inl g))), (h7, cuC cv)] ++ va_pl L (pf cJ kd pi bd af bo)) H → va_D A ([(r0, rdC ov (va_rf ol) r1 r2 r3 r4 r5), (r1, chC cf cl zn 0), (r2, chC cf cl zn 1), (r3, chC cf cl zn 2), (r4, chC cf cl zn 3), (r5, tlC cI tf), (h0, snC n0 k0 g0 sv h1 h2 h7), (h1, tmC tv), (h2, boC h3 h5 bv), (h3, mkC h4), (h4, .inl (cJ, 4, .inr (.inl f))), (h5, mkC h6), (h6, .inl (cJ, 4, .inr (.inl g))), (h7, cuC cv)] ++ va_pl L (pf cJ kd pi bd af bo)) → va_S A s.heap H locs → ∀ (i3 : Int32) (i4 : Int32) (ls : Array Slot), lv_has ls 7 [(0, .ref h0), (1, .ref q), (2, .ref r0), (3, .int i3), (4, .int i4)] → RES = xc_hear_58 ov go gq tf n0 k0 g0 (ca pi bd bo q) n1 sv tv bv f g cv i3 i4 → W p l e ({ frames := 5, cells := 2, slots := 11, locals := 115 }) s m #[(.ref h0 : Value), (.ref q : Value), (.ref r0 : Value), (.int n1 : Value)] below meth c H locs 0 0 QP (F0 m 58 ls []) := by
    intro sv tv bv f g cv H locs hP hD hS i3 i4 ls hl hE
    unfold xc_hear_58 at hE
    refine lv_iconst (v := 0) hx hb dX8_hear_58 (by decide) ?_
    exact J_59 sv tv bv f g cv _ _ hP hD hS i3 i4 0 _ (lv_sub hl [0, 1, 2, 3, 4] rfl) hE
  rw [hQP] at J_58
  rw [hQP] at J_59
  rw [hQP] at J_90
  rw [hQP] at J_117
  rw [hQP] at J_140
  -- from the entry
  have hE := hRES
  unfold xc_hear at hE
  refine lv_aload_n hx hb dX8_hear_0 rfl (lv_at hl 1 rfl) ?_
  obtain ⟨k_241, hk_241⟩ := va_pl_get (X := [(r0, rdC ov (va_rf ol) r1 r2 r3 r4 r5), (r1, chC cf cl zn 0), (r2, chC cf cl zn 1), (r3, chC cf cl zn 2), (r4, chC cf cl zn 3), (r5, tlC cI tf), (h0, snC n0 k0 g0 sv h1 h2 h7), (h1, tmC tv), (h2, boC h3 h5 bv), (h3, mkC h4), (h4, .inl (cJ, 4, .inr (.inl f))), (h5, mkC h6), (h6, .inl (cJ, 4, .inr (.inl g))), (h7, cuC cv)]) (f := pf cJ kd pi bd af bo) m_q
  refine va_getN (D := D) (ci := 5) (v := .int (pi 2 q)) (C := RX5) (T := TX5) (N := 7) hx hb ha inlX5 hown hK hP k_241 (hk_241.trans (congrArg (fun z => some (q, z)) (pf_p k_q))) rfl 2 (by decide) (va_Nw.use rfl (hN.f RX8 56 "CongestionBench$Parcel" "number" "I" "CongestionBench" (by decide +kernel))) (fun _ h9 => h9) rfl dX8_hear_1 ?_
  refine lv_topi (fun x_242 ex_242 => ?_)
  have hE := bd_at ex_242 hE
  refine lv_istore (lv' := [(4, .int x_242), (0, .ref h0), (1, .ref q), (2, .ref r0), (3, .int n1)]) hx hb dX8_hear_4 hl (by decide) rfl (fun ls hl => ?_)
  refine lv_iload hx hb dX8_hear_6 (lv_at hl 0 rfl) ?_
  refine lv_aload_n hx hb dX8_hear_8 rfl (lv_at hl 1 rfl) ?_
  refine va_get (D := D) (ci := 8) (v := .int (sv 3)) (C := RX8) (T := TX8) (N := 20) hx hb ha inlX8 hown hK hP 6 rfl rfl 3 (by decide) (ha _ kf_X8_59) (fun _ h9 => h9) rfl dX8_hear_9 ?_
  refine lv_topi (fun x_243 ex_243 => ?_)
  have hE := bd_at ex_243 hE
  refine lv_icmp_ge (tgt := 16) hx hb dX8_hear_12 (by decide) (fun c_244 => ?_) (fun c_244 => ?_)
  · have hE := hE.trans (if_pos c_244)
    refine lv_iload hx hb dX8_hear_16 (lv_at hl 0 rfl) ?_
    refine lv_aload_n hx hb dX8_hear_18 rfl (lv_at hl 1 rfl) ?_
    refine va_get (D := D) (ci := 8) (v := .int (sv 3)) (C := RX8) (T := TX8) (N := 20) hx hb ha inlX8 hown hK hP 6 rfl rfl 3 (by decide) (ha _ kf_X8_59) (fun _ h9 => h9) rfl dX8_hear_19 ?_
    refine lv_topi (fun x_245 ex_245 => ?_)
    have hE := bd_at ex_245 hE
    refine lv_icmp_ne (tgt := 58) hx hb dX8_hear_22 (by decide) (fun c_246 => ?_) (fun c_246 => ?_)
    · have hE := hE.trans (if_neg c_246)
      exact J_58 sv tv bv f g cv _ _ hP hD hS n1 x_242 _ (lv_sub hl [1, 2, 3, 4, 0] rfl) hE
    · have hE := hE.trans (if_pos c_246)
      refine lv_aload_n hx hb dX8_hear_25 rfl (lv_at hl 2 rfl) ?_
      obtain ⟨k_247, hk_247⟩ := va_pl_get (X := [(r0, rdC ov (va_rf ol) r1 r2 r3 r4 r5), (r1, chC cf cl zn 0), (r2, chC cf cl zn 1), (r3, chC cf cl zn 2), (r4, chC cf cl zn 3), (r5, tlC cI tf), (h0, snC n0 k0 g0 sv h1 h2 h7), (h1, tmC tv), (h2, boC h3 h5 bv), (h3, mkC h4), (h4, .inl (cJ, 4, .inr (.inl f))), (h5, mkC h6), (h6, .inl (cJ, 4, .inr (.inl g))), (h7, cuC cv)]) (f := pf cJ kd pi bd af bo) m_q
      refine va_getN (D := D) (ci := 5) (v := .int (pi 4 q)) (C := RX5) (T := TX5) (N := 7) hx hb ha inlX5 hown hK hP k_247 (hk_247.trans (congrArg (fun z => some (q, z)) (pf_p k_q))) rfl 4 (by decide) (va_Nw.use rfl (hN.f RX8 62 "CongestionBench$Parcel" "window" "I" "CongestionBench" (by decide +kernel))) (fun _ h9 => h9) rfl dX8_hear_26 ?_
      refine lv_topi (fun x_248 ex_248 => ?_)
      have hE := bd_at ex_248 hE
      refine lv_aload_n hx hb dX8_hear_29 rfl (lv_at hl 1 rfl) ?_
      refine va_get (D := D) (ci := 8) (v := .int (sv 9)) (C := RX8) (T := TX8) (N := 20) hx hb ha inlX8 hown hK hP 6 rfl rfl 9 (by decide) (ha _ kf_X8_22) (fun _ h9 => h9) rfl dX8_hear_30 ?_
      refine lv_topi (fun x_249 ex_249 => ?_)
      have hE := bd_at ex_249 hE
      refine lv_icmp_ne (tgt := 58) hx hb dX8_hear_33 (by decide) (fun c_250 => ?_) (fun c_250 => ?_)
      · have hE := hE.trans (if_neg c_250)
        exact J_58 sv tv bv f g cv _ _ hP hD hS n1 x_242 _ (lv_sub hl [1, 2, 3, 4, 0] rfl) hE
      · have hE := hE.trans (if_pos c_250)
        refine lv_aload_n hx hb dX8_hear_36 rfl (lv_at hl 1 rfl) ?_
        refine va_get (D := D) (ci := 8) (v := .int (sv 4)) (C := RX8) (T := TX8) (N := 20) hx hb ha inlX8 hown hK hP 6 rfl rfl 4 (by decide) (ha _ kf_X8_65) (fun _ h9 => h9) rfl dX8_hear_37 ?_
        refine lv_topi (fun x_251 ex_251 => ?_)
        have hE := bd_at ex_251 hE
        refine lv_aload_n hx hb dX8_hear_40 rfl (lv_at hl 1 rfl) ?_
        refine va_get (D := D) (ci := 8) (v := .int (sv 3)) (C := RX8) (T := TX8) (N := 20) hx hb ha inlX8 hown hK hP 6 rfl rfl 3 (by decide) (ha _ kf_X8_59) (fun _ h9 => h9) rfl dX8_hear_41 ?_
        refine lv_topi (fun x_252 ex_252 => ?_)
        have hE := bd_at ex_252 hE
        refine lv_icmp_le (tgt := 58) hx hb dX8_hear_44 (by decide) (fun c_253 => ?_) (fun c_253 => ?_)
        · have hE := hE.trans (if_pos c_253)
          exact J_58 sv tv bv f g cv _ _ hP hD hS n1 x_242 _ (lv_sub hl [1, 2, 3, 4, 0] rfl) hE
        · have hE := hE.trans (if_neg c_253)
          refine lv_aload_n hx hb dX8_hear_47 rfl (lv_at hl 2 rfl) ?_
          obtain ⟨k_254, hk_254⟩ := va_pl_get (X := [(r0, rdC ov (va_rf ol) r1 r2 r3 r4 r5), (r1, chC cf cl zn 0), (r2, chC cf cl zn 1), (r3, chC cf cl zn 2), (r4, chC cf cl zn 3), (r5, tlC cI tf), (h0, snC n0 k0 g0 sv h1 h2 h7), (h1, tmC tv), (h2, boC h3 h5 bv), (h3, mkC h4), (h4, .inl (cJ, 4, .inr (.inl f))), (h5, mkC h6), (h6, .inl (cJ, 4, .inr (.inl g))), (h7, cuC cv)]) (f := pf cJ kd pi bd af bo) m_q
          refine va_getN (D := D) (ci := 5) (v := .int (pi 3 q)) (C := RX5) (T := TX5) (N := 7) hx hb ha inlX5 hown hK hP k_254 (hk_254.trans (congrArg (fun z => some (q, z)) (pf_p k_q))) rfl 3 (by decide) (va_Nw.use rfl (hN.f RX8 68 "CongestionBench$Parcel" "special" "Z" "CongestionBench" (by decide +kernel))) (fun _ h9 => h9) rfl dX8_hear_48 ?_
          refine lv_topi (fun x_255 ex_255 => ?_)
          have hE := bd_at ex_255 hE
          refine lv_if_ne (tgt := 58) hx hb dX8_hear_51 (by decide) (fun c_256 => ?_) (fun c_256 => ?_)
          · have hE := hE.trans (if_neg c_256)
            exact J_58 sv tv bv f g cv _ _ hP hD hS n1 x_242 _ (lv_sub hl [1, 2, 3, 4, 0] rfl) hE
          · have hE := hE.trans (if_pos c_256)
            refine lv_iconst (v := 1) hx hb dX8_hear_54 (by decide) ?_
            refine lv_goto (tgt := 59) hx hb dX8_hear_55 (by decide) ?_
            exact J_59 sv tv bv f g cv _ _ hP hD hS n1 x_242 1 _ (lv_sub hl [1, 2, 3, 4, 0] rfl) hE
  · have hE := hE.trans (if_neg c_244)
    refine W.know2 (fun hk1 hk2 => ?_)
    have hg0 : gr s.heap _ 0 := ⟨hk1, hk2⟩
    refine W.widen (k := 2) (n := 11) (Nat.le_of_ble_eq_true rfl) (Nat.le_of_ble_eq_true rfl) ?_
    have hP9 : va_P D vwCl ([(r0, rdC ov (va_rf ol) r1 r2 r3 r4 r5), (r1, chC cf cl zn 0), (r2, chC cf cl zn 1), (r3, chC cf cl zn 2), (r4, chC cf cl zn 3), (r5, tlC cI tf), (h0, snC n0 k0 g0 sv h1 h2 h7), (h1, tmC tv), (h2, boC h3 h5 bv), (h3, mkC h4), (h4, .inl (cJ, 4, .inr (.inl f))), (h5, mkC h6), (h6, .inl (cJ, 4, .inr (.inl g))), (h7, cuC cv)] ++ va_pl L (pf cJ kd pi bd af bo)) _ := hP
    have hD9 : va_D A ([(r0, rdC ov (va_rf ol) r1 r2 r3 r4 r5), (r1, chC cf cl zn 0), (r2, chC cf cl zn 1), (r3, chC cf cl zn 2), (r4, chC cf cl zn 3), (r5, tlC cI tf), (h0, snC n0 k0 g0 sv h1 h2 h7), (h1, tmC tv), (h2, boC h3 h5 bv), (h3, mkC h4), (h4, .inl (cJ, 4, .inr (.inl f))), (h5, mkC h6), (h6, .inl (cJ, 4, .inr (.inl g))), (h7, cuC cv)] ++ va_pl L (pf cJ kd pi bd af bo)) := hD
    exact W.vret hx hb hr (fun t ht hW => ⟨⟨(), rfl, trivial, ⟨sv, tv, bv, cv, f, g, ov, tf, ol, cf, cl, zn, xl, tag, L, kd, pi, bd, af, bo, 0, go, gq, ⟨⟨hR, hPB, hZ, hT, by rw [ht]; exact hg0, by omega, hLK, hQ⟩, ⟨hG, hJ⟩, (by rw [← hRES, hE]), (by rw [← hRES, hE]), (by rw [← hRES, hE]), (by rw [← hRES, hE]), (by rw [← hRES, hE]), (by rw [← hRES, hE]), (by rw [← hRES, hE]), (by rw [← hRES, hE]), (by rw [← hRES, hE]), (by rw [← hRES, hE])⟩, by rw [ht]; exact hP9, va_K.moved hW.alike hK, hD9⟩⟩, hS.F ht⟩) hS.2.2 dX8_hear_15
