abbrev RT : Type := Int32 × (Nat → Int32) × (Nat → Int32) × FVt × FJt × (Option S4) × (List S3) × (List S4) × (List A6) × Int32
def xc_afS (n : Nat) (en : Int32) (kk : (Int32 → Int32 → (Nat → Int32) → (Nat → Int32) → FVt → FJt → (Option S4) → (List S3) → (List S4) → (List A6) → RT)) (nw i4 : Int32) (ov tf : Nat → Int32) (FV : FVt) (FJ : FJt) (go : Option S4) (gq : List S3) (gw : List S4) (ga : List A6) : RT := bd (xc_nextBusy n nw FV go gw ga en) (fun t1 => bd t1 (fun v1 => kk (i4 + 1) v1 ov tf FV FJ go gq gw ga))
set_option maxRecDepth 100000 in
def xc_flS (n : Nat) (FX : Nat → Nat → Int32) (en : Int32) (kk : (Int32 → Int32 → (Nat → Int32) → (Nat → Int32) → FVt → FJt → (Option S4) → (List S3) → (List S4) → (List A6) → RT)) (nw i4 : Int32) : Nat → Nat → (Nat → Int32) → (Nat → Int32) → FVt → FJt → (Option S4) → (List S3) → (List S4) → (List A6) → RT
  | 0, _, ov, tf, FV, FJ, go, gq, gw, ga => xc_afS n en kk nw i4 ov tf FV FJ go gq gw ga
  | m + 1, j, ov, tf, FV, FJ, go, gq, gw, ga => bd (xc_sendMay ov go gq tf (FX j 0) (FX j 1) (FX j 2) (FV j 0) (FV j 1) (FV j 2) (FV j 3) (FJ j 0) (FJ j 1) nw) (fun t1 => bd t1.1 (fun sv => bd t1.2.1 (fun tv => bd t1.2.2.1 (fun bv => bd t1.2.2.2.1 (fun cv => bd t1.2.2.2.2.1 (fun f => bd t1.2.2.2.2.2.1 (fun g => bd t1.2.2.2.2.2.2.1 (fun ov => bd t1.2.2.2.2.2.2.2.1 (fun tf => bd t1.2.2.2.2.2.2.2.2.1 (fun go => bd t1.2.2.2.2.2.2.2.2.2 (fun gq => bd (va_up FV j (fpk sv tv bv cv (FV j 4))) (fun FV => bd (va_up FJ j (fpj f g (FJ j 2))) (fun FJ => xc_flS n FX en kk nw i4 m (j + 1) ov tf FV FJ go gq gw ga)))))))))))))
set_option maxRecDepth 100000 in
def xc_flT (n : Nat) (FX : Nat → Nat → Int32) (en : Int32) (kk : (Int32 → Int32 → (Nat → Int32) → (Nat → Int32) → FVt → FJt → (Option S4) → (List S3) → (List S4) → (List A6) → RT)) (nw i4 : Int32) : Nat → Nat → (Nat → Int32) → (Nat → Int32) → FVt → FJt → (Option S4) → (List S3) → (List S4) → (List A6) → RT
  | 0, _, ov, tf, FV, FJ, go, gq, gw, ga => xc_flS n FX en kk nw i4 n 0 ov tf FV FJ go gq gw ga
  | m + 1, j, ov, tf, FV, FJ, go, gq, gw, ga => bd (xc_lookAt ov go gq tf (FX j 0) (FX j 1) (FX j 2) (FV j 0) (FV j 1) (FV j 2) (FV j 3) (FJ j 0) (FJ j 1) nw) (fun t1 => bd t1.1 (fun sv => bd t1.2.1 (fun tv => bd t1.2.2.1 (fun bv => bd t1.2.2.2.1 (fun cv => bd t1.2.2.2.2.1 (fun f => bd t1.2.2.2.2.2.1 (fun g => bd t1.2.2.2.2.2.2.1 (fun ov => bd t1.2.2.2.2.2.2.2.1 (fun tf => bd t1.2.2.2.2.2.2.2.2.1 (fun go => bd t1.2.2.2.2.2.2.2.2.2 (fun gq => bd (va_up FV j (fpk sv tv bv cv (FV j 4))) (fun FV => bd (va_up FJ j (fpj f g (FJ j 2))) (fun FJ => xc_flT n FX en kk nw i4 m (j + 1) ov tf FV FJ go gq gw ga)))))))))))))
set_option maxRecDepth 100000 in
def xc_runO (n : Nat) (FX : Nat → Nat → Int32) (n1 x2 en : Int32) : Nat → Int32 → Int32 → (Nat → Int32) → (Nat → Int32) → FVt → FJt → (Option S4) → (List S3) → (List S4) → (List A6) → RT
  | 0, _, nw, ov, tf, FV, FJ, go, gq, gw, ga => (nw, ov, tf, FV, FJ, go, gq, gw, ga, 0)
  | fu + 1, i4, nw, ov, tf, FV, FJ, go, gq, gw, ga => if n1 ≤ i4 then bd (ov 11) (fun v1 => bd (v1 - x2) (fun v2 => (nw, ov, tf, FV, FJ, go, gq, gw, ga, v2))) else if en ≤ nw then bd (ov 11) (fun v1 => bd (v1 - x2) (fun v2 => (nw, ov, tf, FV, FJ, go, gq, gw, ga, v2))) else bd (xc_moveLink ov go gq gw nw) (fun t1 => bd t1.1 (fun go => bd t1.2.1 (fun gq => bd t1.2.2 (fun gw => bd (xc_bringSegments n FX nw ov tf FV FJ go gq gw ga) (fun t2 => bd t2.1 (fun ov => bd t2.2.1 (fun tf => bd t2.2.2.1 (fun FV => bd t2.2.2.2.1 (fun FJ => bd t2.2.2.2.2.1 (fun go => bd t2.2.2.2.2.2.1 (fun gq => bd t2.2.2.2.2.2.2.1 (fun gw => bd t2.2.2.2.2.2.2.2 (fun ga => bd (xc_tellWindows n FX nw ov tf FV FJ go gq gw ga) (fun t3 => bd t3.1 (fun ov => bd t3.2.1 (fun tf => bd t3.2.2.1 (fun FV => bd t3.2.2.2.1 (fun FJ => bd t3.2.2.2.2.1 (fun go => bd t3.2.2.2.2.2.1 (fun gq => bd t3.2.2.2.2.2.2.1 (fun gw => bd t3.2.2.2.2.2.2.2 (fun ga => bd (xc_bringAcks n FX nw ov tf FV FJ go gq gw ga) (fun t4 => bd t4.1 (fun ov => bd t4.2.1 (fun tf => bd t4.2.2.1 (fun FV => bd t4.2.2.2.1 (fun FJ => bd t4.2.2.2.2.1 (fun go => bd t4.2.2.2.2.2.1 (fun gq => bd t4.2.2.2.2.2.2.1 (fun gw => bd t4.2.2.2.2.2.2.2 (fun ga => xc_flT n FX en (xc_runO n FX n1 x2 en fu) nw i4 n 0 ov tf FV FJ go gq gw ga)))))))))))))))))))))))))))))))

def xc_run (n : Nat) (FX : Nat → Nat → Int32) (nw : Int32) (ov tf : Nat → Int32) (FV : FVt) (FJ : FJt) (go : Option S4) (gq : List S3) (gw : List S4) (ga : List A6) (n1 : Int32) : RT := bd (wi n1 1 20000) (fun r1 => if r1 = 0 then (nw, ov, tf, FV, FJ, go, gq, gw, ga, (-1 : Int32)) else bd ((100000000 : Int32) - n1) (fun v1 => if nw ≤ v1 then bd (ov 11) (fun x2 => bd (nw + n1) (fun en => xc_runO n FX n1 x2 en ((n1.toInt - (0 : Int32).toInt).toNat + 1) 0 nw ov tf FV FJ go gq gw ga)) else (nw, ov, tf, FV, FJ, go, gq, gw, ga, (-1 : Int32))))
set_option maxHeartbeats 4000000 in
set_option maxRecDepth 100000 in
theorem s_run (l : Launch) (D : va_G) (cI cJ cZ cO : ClassId) (Hh : Heap) (b0 fl : Nat) (nw : Int32) (n : Nat) (fa : Nat → Nat → Nat) (FX : Nat → Nat → Int32) (FV : Nat → Nat → Nat → Int32) (FJ : Nat → Nat → Nat → Int64) (hn : n ≤ 4) (r0 r1 r2 r3 r4 r5 : Nat) (ov : Nat → Int32) (ol : Option Nat) (cf cl : Nat → Option Nat) (zn : Nat → Int32) (xl : Nat → List Nat) (tag : Nat → Nat) (L : List Nat) (kd : Nat → Bool) (pi : Nat → Nat → Int32) (bd : Nat → Nat) (af : Nat → Option Nat) (bo : Nat → Nat → Int64) (go : Option S4) (gq : List S3) (gw : List S4) (ga : List A6) (tf : Nat → Int32) (n1 : Int32) (hR : RI L kd af tag cf cl xl ol) (hPB : PB L kd pi bd) (hZ : ZN zn xl) (hG : GG xl pi bd bo ol go gq gw ga) (hJ : JB L kd bd) (hT : 0 ≤ ov 10) (hLK : LK ov) (hq0 : (xl 0).length ≤ 100) (htot : tot xl ol ≤ 12000) (hTI : TI nw (dz pi (xl 1)) (dz pi (xl 2))) : Met l yX10_run (wa yX10_run cX10_run 9 (some .int)) ({ frames := 7, cells := 48100, slots := 264300, locals := 163 }) (va_Pc [.ref b0, .int n1] (pw_h D cI cJ cZ cO Hh (([(b0, cbC r0 fl nw), (fl, flC cO n fa), (r0, rdC ov (va_rf ol) r1 r2 r3 r4 r5), (r1, chC cf cl zn 0), (r2, chC cf cl zn 1), (r3, chC cf cl zn 2), (r4, chC cf cl zn 3), (r5, tlC cI tf)] ++ va_pl L (pf cJ kd pi bd af bo)) ++ fls cJ fa FX FV FJ n))) (va_Qi (fun (r : Int32) (_ : Unit) => ((True) ∧ r = (xc_run n FX nw ov tf FV FJ go gq gw ga n1).2.2.2.2.2.2.2.2.2)) (fun (_ : Unit) (t : State) => ∃ (nw2 : Int32) (ov2 tf2 : Nat → Int32) (ol2 : Option Nat) (cf2 cl2 : Nat → Option Nat) (zn2 : Nat → Int32) (xl2 : Nat → List Nat) (tag2 : Nat → Nat) (L2 : List Nat) (kd2 : Nat → Bool) (pi2 : Nat → Nat → Int32) (bd2 : Nat → Nat) (af2 : Nat → Option Nat) (bo2 : Nat → Nat → Int64) (b2 : Nat) (go2 : Option S4) (gq2 : List S3) (gw2 : List S4) (ga2 : List A6) (FV2 : Nat → Nat → Nat → Int32) (FJ2 : Nat → Nat → Nat → Int64), ((RI L2 kd2 af2 tag2 cf2 cl2 xl2 ol2 ∧ PB L2 kd2 pi2 bd2 ∧ ZN zn2 xl2 ∧ 0 ≤ ov2 10 ∧ gr Hh t.heap b2 ∧ LK ov2 ∧ (xl2 0).length ≤ 100 ∧ tot xl2 ol2 = tot xl ol + b2 ∧ tot xl2 ol2 ≤ 12000 ∧ TI nw2 (dz pi2 (xl2 1)) (dz pi2 (xl2 2))) ∧ (GG xl2 pi2 bd2 bo2 ol2 go2 gq2 gw2 ga2 ∧ JB L2 kd2 bd2) ∧ nw2 = (xc_run n FX nw ov tf FV FJ go gq gw ga n1).1 ∧ ov2 = (xc_run n FX nw ov tf FV FJ go gq gw ga n1).2.1 ∧ tf2 = (xc_run n FX nw ov tf FV FJ go gq gw ga n1).2.2.1 ∧ FV2 = (xc_run n FX nw ov tf FV FJ go gq gw ga n1).2.2.2.1 ∧ FJ2 = (xc_run n FX nw ov tf FV FJ go gq gw ga n1).2.2.2.2.1 ∧ go2 = (xc_run n FX nw ov tf FV FJ go gq gw ga n1).2.2.2.2.2.1 ∧ gq2 = (xc_run n FX nw ov tf FV FJ go gq gw ga n1).2.2.2.2.2.2.1 ∧ gw2 = (xc_run n FX nw ov tf FV FJ go gq gw ga n1).2.2.2.2.2.2.2.1 ∧ ga2 = (xc_run n FX nw ov tf FV FJ go gq gw ga n1).2.2.2.2.2.2.2.2.1) ∧ pw_t D cI cJ cZ cO (va_A (([(b0, cbC r0 fl nw), (fl, flC cO n fa), (r0, rdC ov (va_rf ol) r1 r2 r3 r4 r5), (r1, chC cf cl zn 0), (r2, chC cf cl zn 1), (r3, chC cf cl zn 2), (r4, chC cf cl zn 3), (r5, tlC cI tf)] ++ va_pl L (pf cJ kd pi bd af bo)) ++ fls cJ fa FX FV FJ n) Hh.size) (([(b0, cbC r0 fl nw2), (fl, flC cO n fa), (r0, rdC ov2 (va_rf ol2) r1 r2 r3 r4 r5), (r1, chC cf2 cl2 zn2 0), (r2, chC cf2 cl2 zn2 1), (r3, chC cf2 cl2 zn2 2), (r4, chC cf2 cl2 zn2 3), (r5, tlC cI tf2)] ++ va_pl L2 (pf cJ kd2 pi2 bd2 af2 bo2)) ++ fls cJ fa FX FV2 FJ2 n) t) (va_A (([(b0, cbC r0 fl nw), (fl, flC cO n fa), (r0, rdC ov (va_rf ol) r1 r2 r3 r4 r5), (r1, chC cf cl zn 0), (r2, chC cf cl zn 1), (r3, chC cf cl zn 2), (r4, chC cf cl zn 3), (r5, tlC cI tf)] ++ va_pl L (pf cJ kd pi bd af bo)) ++ fls cJ fa FX FV FJ n) Hh.size)) 48100 264300 (va_A (([(b0, cbC r0 fl nw), (fl, flC cO n fa), (r0, rdC ov (va_rf ol) r1 r2 r3 r4 r5), (r1, chC cf cl zn 0), (r2, chC cf cl zn 1), (r3, chC cf cl zn 2), (r4, chC cf cl zn 3), (r5, tlC cI tf)] ++ va_pl L (pf cJ kd pi bd af bo)) ++ fls cJ fa FX FV FJ n) Hh.size) := by
  refine Met.ofW (cc := cX10_run) (maxL := 9) (ret := (some .int)) (by decide) rfl ?_
  intro p e s m args below meth c s₁ B hml hv
  obtain ⟨rfl, hsz, hP, hK, hD0, hN⟩ := hv
  have hx := B.exec
  have hb := B.bytes
  have hr := B.returns
  have hts := atoms_spec (ws := (wa yX10_run cX10_run 9 (some .int))) B.pre
  have ha : ∀ w ∈ wsL_law, w.before _ s = true := fun w h => hts w (List.mem_cons_of_mem _ h)
  have hown : s.vm.findClass RX10 = some m.cls := findClass_of_methodNamed B.named
  have hlocks := B.notSynchronized
  subst hsz
  have hD := hD0.self (sz := s.heap.size)
  generalize hAe : va_A (([(b0, cbC r0 fl nw), (fl, flC cO n fa), (r0, rdC ov (va_rf ol) r1 r2 r3 r4 r5), (r1, chC cf cl zn 0), (r2, chC cf cl zn 1), (r3, chC cf cl zn 2), (r4, chC cf cl zn 3), (r5, tlC cI tf)] ++ va_pl L (pf cJ kd pi bd af bo)) ++ fls cJ fa FX FV FJ n) s.heap.size = A at hD ⊢
  have hA : ∀ q : Nat, s.heap.size ≤ q → A q := fun q h => by rw [← hAe]; exact Or.inr h
  have hS : va_S A s.heap s.heap [] := va_S.rf
  have hP : va_P D vwCl (([(b0, cbC r0 fl nw), (fl, flC cO n fa), (r0, rdC ov (va_rf ol) r1 r2 r3 r4 r5), (r1, chC cf cl zn 0), (r2, chC cf cl zn 1), (r3, chC cf cl zn 2), (r4, chC cf cl zn 3), (r5, tlC cI tf)] ++ va_pl L (pf cJ kd pi bd af bo)) ++ fls cJ fa FX FV FJ n) s.heap := hP
  have hl := lv_entry ([.ref b0, .int n1]) (n := 9) (Nat.le_of_ble_eq_true rfl)
  rw [lg_entry_eq]
  generalize (lg_sl ([.ref b0, .int n1]) ++ List.replicate (9 - (lg_sl ([.ref b0, .int n1])).length) Slot.unset).toArray = ls at hl ⊢
  have hl : lv_has ls 9 [(0, .ref b0), (1, .int n1)] := hl
  obtain ⟨QP, hQP⟩ : ∃ y : State → Prop, y = (MQ below (va_Qi (fun (r : Int32) (_ : Unit) => ((True) ∧ r = (xc_run n FX nw ov tf FV FJ go gq gw ga n1).2.2.2.2.2.2.2.2.2)) (fun (_ : Unit) (t : State) => ∃ (nw2 : Int32) (ov2 tf2 : Nat → Int32) (ol2 : Option Nat) (cf2 cl2 : Nat → Option Nat) (zn2 : Nat → Int32) (xl2 : Nat → List Nat) (tag2 : Nat → Nat) (L2 : List Nat) (kd2 : Nat → Bool) (pi2 : Nat → Nat → Int32) (bd2 : Nat → Nat) (af2 : Nat → Option Nat) (bo2 : Nat → Nat → Int64) (b2 : Nat) (go2 : Option S4) (gq2 : List S3) (gw2 : List S4) (ga2 : List A6) (FV2 : Nat → Nat → Nat → Int32) (FJ2 : Nat → Nat → Nat → Int64), ((RI L2 kd2 af2 tag2 cf2 cl2 xl2 ol2 ∧ PB L2 kd2 pi2 bd2 ∧ ZN zn2 xl2 ∧ 0 ≤ ov2 10 ∧ gr s.heap t.heap b2 ∧ LK ov2 ∧ (xl2 0).length ≤ 100 ∧ tot xl2 ol2 = tot xl ol + b2 ∧ tot xl2 ol2 ≤ 12000 ∧ TI nw2 (dz pi2 (xl2 1)) (dz pi2 (xl2 2))) ∧ (GG xl2 pi2 bd2 bo2 ol2 go2 gq2 gw2 ga2 ∧ JB L2 kd2 bd2) ∧ nw2 = (xc_run n FX nw ov tf FV FJ go gq gw ga n1).1 ∧ ov2 = (xc_run n FX nw ov tf FV FJ go gq gw ga n1).2.1 ∧ tf2 = (xc_run n FX nw ov tf FV FJ go gq gw ga n1).2.2.1 ∧ FV2 = (xc_run n FX nw ov tf FV FJ go gq gw ga n1).2.2.2.1 ∧ FJ2 = (xc_run n FX nw ov tf FV FJ go gq gw ga n1).2.2.2.2.1 ∧ go2 = (xc_run n FX nw ov tf FV FJ go gq gw ga n1).2.2.2.2.2.1 ∧ gq2 = (xc_run n FX nw ov tf FV FJ go gq gw ga n1).2.2.2.2.2.2.1 ∧ gw2 = (xc_run n FX nw ov tf FV FJ go gq gw ga n1).2.2.2.2.2.2.2.1 ∧ ga2 = (xc_run n FX nw ov tf FV FJ go gq gw ga n1).2.2.2.2.2.2.2.2.1) ∧ pw_t D cI cJ cZ cO A (([(b0, cbC r0 fl nw2), (fl, flC cO n fa), (r0, rdC ov2 (va_rf ol2) r1 r2 r3 r4 r5), (r1, chC cf2 cl2 zn2 0), (r2, chC cf2 cl2 zn2 1), (r3, chC cf2 cl2 zn2 2), (r4, chC cf2 cl2 zn2 3), (r5, tlC cI tf2)] ++ va_pl L2 (pf cJ kd2 pi2 bd2 af2 bo2)) ++ fls cJ fa FX FV2 FJ2 n) t) A) #[(.ref b0 : Value), (.int n1 : Value)] s 48100 264300 A) := ⟨_, rfl⟩
  obtain ⟨RES, hRES⟩ : ∃ y, y = (xc_run n FX nw ov tf FV FJ go gq gw ga n1) := ⟨_, rfl⟩
  -- from the entry
  have hE := hRES
  unfold xc_run at hE
  refine lv_iload_n hx hb dX10_run_0 rfl (lv_at hl 1 rfl) ?_
  refine lv_iconst (v := 1) hx hb dX10_run_1 (by decide) ?_
  refine lv_sipush (v := 20000) hx hb dX10_run_2 (by decide) ?_
  have hp0 := perm_idx (X := [(b0, cbC r0 fl nw), (fl, flC cO n fa), (r0, rdC ov (va_rf ol) r1 r2 r3 r4 r5), (r1, chC cf cl zn 0), (r2, chC cf cl zn 1), (r3, chC cf cl zn 2), (r4, chC cf cl zn 3), (r5, tlC cI tf)]) (Y := [] ++ [(b0, cbC r0 fl nw), (fl, flC cO n fa), (r0, rdC ov (va_rf ol) r1 r2 r3 r4 r5), (r1, chC cf cl zn 0), (r2, chC cf cl zn 1), (r3, chC cf cl zn 2), (r4, chC cf cl zn 3), (r5, tlC cI tf)]) (N := 8) [0, 1, 2, 3, 4, 5, 6, 7] rfl rfl (by decide)
  have hPq := hP.perm (pm_Q (cx := []) (xr := [(b0, cbC r0 fl nw), (fl, flC cO n fa), (r0, rdC ov (va_rf ol) r1 r2 r3 r4 r5), (r1, chC cf cl zn 0), (r2, chC cf cl zn 1), (r3, chC cf cl zn 2), (r4, chC cf cl zn 3), (r5, tlC cI tf)]) (pl := va_pl L (pf cJ kd pi bd af bo)) (R := fls cJ fa FX FV FJ n) hp0)
  have hDq := hD.perm (pm_Q (cx := []) (xr := [(b0, cbC r0 fl nw), (fl, flC cO n fa), (r0, rdC ov (va_rf ol) r1 r2 r3 r4 r5), (r1, chC cf cl zn 0), (r2, chC cf cl zn 1), (r3, chC cf cl zn 2), (r4, chC cf cl zn 3), (r5, tlC cI tf)]) (pl := va_pl L (pf cJ kd pi bd af bo)) (R := fls cJ fa FX FV FJ n) hp0)
  have hPc := hPq.left
  have hDc := hDq.left
  have hFc := va_freeR hDq hS hA
  refine va_calli (va_runS (As := [.int n1, .int 1, .int 20000]) (rest := []) ⟨hx, hb, hml, hown, ha⟩ (c_within l D cI cJ cZ cO _ n1 1 20000) (va_cwS 3 ha (gaS kl_X10_22 kt_X10_within kz_X10 kd_X10_within) rfl rfl rfl (by decide +kernel) ⟨Nat.le_of_ble_eq_true rfl, Nat.le_of_ble_eq_true rfl⟩) ⟨pw_blind, fun U hU hW => ⟨rfl, pw_start hU hW hPc hK hDc hN⟩⟩ rfl rfl hl.1 rfl (lv_room (Nat.le_of_ble_eq_true rfl)) dX10_run_5 ⟨Nat.le_of_ble_eq_true rfl, Nat.le_of_ble_eq_true rfl⟩) hS (fun q _ h => hFc q h) hFc (fun r_165 u t H1 locs ht hvm hw hB hz1 hk1 hS => ?_)
  obtain ⟨hP1, hK1, hD1⟩ := hB
  rw [ht] at hP1
  obtain ⟨hP, hD⟩ := va_joinR (w1 := []) hPq hDq hk1 hFc hP1 hD1
  have hP := hP.perm (pm_Qb (xr := [(b0, cbC r0 fl nw), (fl, flC cO n fa), (r0, rdC ov (va_rf ol) r1 r2 r3 r4 r5), (r1, chC cf cl zn 0), (r2, chC cf cl zn 1), (r3, chC cf cl zn 2), (r4, chC cf cl zn 3), (r5, tlC cI tf)]) (w1 := []) (pl := va_pl L (pf cJ kd pi bd af bo)) (R := fls cJ fa FX FV FJ n))
  have hD := hD.perm (pm_Qb (xr := [(b0, cbC r0 fl nw), (fl, flC cO n fa), (r0, rdC ov (va_rf ol) r1 r2 r3 r4 r5), (r1, chC cf cl zn 0), (r2, chC cf cl zn 1), (r3, chC cf cl zn 2), (r4, chC cf cl zn 3), (r5, tlC cI tf)]) (w1 := []) (pl := va_pl L (pf cJ kd pi bd af bo)) (R := fls cJ fa FX FV FJ n))
  clear hp0 hPq hDq hPc hDc hP1 hD1
  generalize H1 = H at hP hS ⊢
  have hP : va_P D vwCl (([(b0, cbC r0 fl nw), (fl, flC cO n fa), (r0, rdC ov (va_rf ol) r1 r2 r3 r4 r5), (r1, chC cf cl zn 0), (r2, chC cf cl zn 1), (r3, chC cf cl zn 2), (r4, chC cf cl zn 3), (r5, tlC cI tf)] ++ va_pl L (pf cJ kd pi bd af bo)) ++ fls cJ fa FX FV FJ n) H := hP
  have hD : va_D A (([(b0, cbC r0 fl nw), (fl, flC cO n fa), (r0, rdC ov (va_rf ol) r1 r2 r3 r4 r5), (r1, chC cf cl zn 0), (r2, chC cf cl zn 1), (r3, chC cf cl zn 2), (r4, chC cf cl zn 3), (r5, tlC cI tf)] ++ va_pl L (pf cJ kd pi bd af bo)) ++ fls cJ fa FX FV FJ n) := hD
  refine W.widen (k := 0) (n := 0) (Nat.le_of_ble_eq_true rfl) (Nat.le_of_ble_eq_true rfl) ?_
  have hr_165 := hw
  have hE := bd_at hr_165 hE
  refine lv_if_eq (tgt := 22) hx hb dX10_run_8 (by decide) (fun c_166 => ?_) (fun c_166 => ?_)
  · have hE := hE.trans (if_pos c_166)
    refine lv_iconst (v := (-1)) hx hb dX10_run_22 (by decide) ?_
    refine W.know2 (fun hk1 hk2 => ?_)
    have hg0 : gr s.heap _ 0 := ⟨hk1, hk2⟩
    refine W.widen (k := 48100) (n := 264300) (Nat.le_of_ble_eq_true rfl) (Nat.le_of_ble_eq_true rfl) ?_
    have hP9 : va_P D vwCl (([(b0, cbC r0 fl nw), (fl, flC cO n fa), (r0, rdC ov (va_rf ol) r1 r2 r3 r4 r5), (r1, chC cf cl zn 0), (r2, chC cf cl zn 1), (r3, chC cf cl zn 2), (r4, chC cf cl zn 3), (r5, tlC cI tf)] ++ va_pl L (pf cJ kd pi bd af bo)) ++ fls cJ fa FX FV FJ n) _ := hP
    have hD9 : va_D A (([(b0, cbC r0 fl nw), (fl, flC cO n fa), (r0, rdC ov (va_rf ol) r1 r2 r3 r4 r5), (r1, chC cf cl zn 0), (r2, chC cf cl zn 1), (r3, chC cf cl zn 2), (r4, chC cf cl zn 3), (r5, tlC cI tf)] ++ va_pl L (pf cJ kd pi bd af bo)) ++ fls cJ fa FX FV FJ n) := hD
    exact W.iret (v := (-1)) hx hb hr (fun t ht hW => ⟨⟨(-1), (), rfl, ⟨trivial, (by rw [← hRES, hE])⟩, ⟨nw, ov, tf, ol, cf, cl, zn, xl, tag, L, kd, pi, bd, af, bo, 0, go, gq, gw, ga, FV, FJ, ⟨⟨hR, hPB, hZ, hT, by rw [ht]; exact hg0, hLK, hq0, rfl, htot, hTI⟩, ⟨hG, hJ⟩, (by rw [← hRES, hE]), (by rw [← hRES, hE]), (by rw [← hRES, hE]), (by rw [← hRES, hE]), (by rw [← hRES, hE]), (by rw [← hRES, hE]), (by rw [← hRES, hE]), (by rw [← hRES, hE]), (by rw [← hRES, hE])⟩, by rw [ht]; exact hP9, va_K.moved hW.alike hK, hD9⟩⟩, hS.F ht⟩) hS.2.2 dX10_run_23
  · have hE := hE.trans (if_neg c_166)
    refine lv_aload_n hx hb dX10_run_11 rfl (lv_at hl 0 rfl) ?_
    refine va_get (D := D) (ci := 10) (v := .int nw) (C := RX10) (T := TX10) (N := 3) hx hb ha inlX10 hown hK hP 0 rfl rfl 2 (by decide) (ha _ kf_X10_60) (fun _ h9 => h9) rfl dX10_run_12 ?_
    refine lv_ldc (v := 100000000) hx hb hown (ha _ kk_X10_64) dX10_run_15 ?_
    refine lv_iload_n hx hb dX10_run_17 rfl (lv_at hl 1 rfl) ?_
    refine lv_isub hx hb dX10_run_18 ?_
    refine lv_topi (fun x_167 ex_167 => ?_)
    have hE := bd_at ex_167 hE
    refine lv_icmp_le (tgt := 24) hx hb dX10_run_19 (by decide) (fun c_168 => ?_) (fun c_168 => ?_)
    · have hE := hE.trans (if_pos c_168)
      refine lv_aload_n hx hb dX10_run_24 rfl (lv_at hl 0 rfl) ?_
      refine va_get (D := D) (ci := 10) (v := .ref r0) (C := RX10) (T := TX10) (N := 3) hx hb ha inlX10 hown hK hP 0 rfl rfl 0 (by decide) (ha _ kf_X10_10) (fun _ h9 => h9) rfl dX10_run_25 ?_
      refine va_getN (D := D) (ci := 7) (v := .int (ov 11)) (C := RX7) (T := TX7) (N := 15) hx hb ha inlX7 hown hK hP 2 rfl rfl 11 (by decide) (va_Nw.use rfl (hN.f RX10 65 "CongestionBench$Road" "sent" "I" "CongestionBench" (by decide +kernel))) (fun _ h9 => h9) rfl dX10_run_28 ?_
      refine lv_topi (fun x_169 ex_169 => ?_)
      have hE := bd_at ex_169 hE
      refine lv_istore_n (lv' := [(2, .int x_169), (0, .ref b0), (1, .int n1)]) hx hb dX10_run_31 rfl hl (by decide) rfl (fun ls hl => ?_)
      refine lv_aload_n hx hb dX10_run_32 rfl (lv_at hl 1 rfl) ?_
      refine va_get (D := D) (ci := 10) (v := .int nw) (C := RX10) (T := TX10) (N := 3) hx hb ha inlX10 hown hK hP 0 rfl rfl 2 (by decide) (ha _ kf_X10_60) (fun _ h9 => h9) rfl dX10_run_33 ?_
      refine lv_iload_n hx hb dX10_run_36 rfl (lv_at hl 2 rfl) ?_
      refine lv_iadd hx hb dX10_run_37 ?_
      refine lv_topi (fun x_170 ex_170 => ?_)
      have hE := bd_at ex_170 hE
      refine lv_istore_n (lv' := [(3, .int x_170), (2, .int x_169), (0, .ref b0), (1, .int n1)]) hx hb dX10_run_38 rfl hl (by decide) rfl (fun ls hl => ?_)
      refine lv_iconst (v := 0) hx hb dX10_run_39 (by decide) ?_
      refine lv_istore (lv' := [(4, .int 0), (3, .int x_170), (2, .int x_169), (0, .ref b0), (1, .int n1)]) hx hb dX10_run_40 hl (by decide) rfl (fun ls hl => ?_)
      have hn2 : x_170.toInt ≤ 100000000 := run_end hTI.1.1 hTI.1.2 (by rw [← hr_165]; exact c_166) ex_167 c_168 ex_170
      obtain ⟨t0, ht0⟩ : ∃ y, y = tot xl ol := ⟨_, rfl⟩
      obtain ⟨QP, hQP⟩ : ∃ y : State → Prop, y = (MQ below (va_Qi (fun (r : Int32) (_ : Unit) => ((True) ∧ r = (xc_run n FX nw ov tf FV FJ go gq gw ga n1).2.2.2.2.2.2.2.2.2)) (fun (_ : Unit) (t : State) => ∃ (nw2 : Int32) (ov2 tf2 : Nat → Int32) (ol2 : Option Nat) (cf2 cl2 : Nat → Option Nat) (zn2 : Nat → Int32) (xl2 : Nat → List Nat) (tag2 : Nat → Nat) (L2 : List Nat) (kd2 : Nat → Bool) (pi2 : Nat → Nat → Int32) (bd2 : Nat → Nat) (af2 : Nat → Option Nat) (bo2 : Nat → Nat → Int64) (b2 : Nat) (go2 : Option S4) (gq2 : List S3) (gw2 : List S4) (ga2 : List A6) (FV2 : Nat → Nat → Nat → Int32) (FJ2 : Nat → Nat → Nat → Int64), ((RI L2 kd2 af2 tag2 cf2 cl2 xl2 ol2 ∧ PB L2 kd2 pi2 bd2 ∧ ZN zn2 xl2 ∧ 0 ≤ ov2 10 ∧ gr s.heap t.heap b2 ∧ LK ov2 ∧ (xl2 0).length ≤ 100 ∧ tot xl2 ol2 = tot xl ol + b2 ∧ tot xl2 ol2 ≤ 12000 ∧ TI nw2 (dz pi2 (xl2 1)) (dz pi2 (xl2 2))) ∧ (GG xl2 pi2 bd2 bo2 ol2 go2 gq2 gw2 ga2 ∧ JB L2 kd2 bd2) ∧ nw2 = (xc_run n FX nw ov tf FV FJ go gq gw ga n1).1 ∧ ov2 = (xc_run n FX nw ov tf FV FJ go gq gw ga n1).2.1 ∧ tf2 = (xc_run n FX nw ov tf FV FJ go gq gw ga n1).2.2.1 ∧ FV2 = (xc_run n FX nw ov tf FV FJ go gq gw ga n1).2.2.2.1 ∧ FJ2 = (xc_run n FX nw ov tf FV FJ go gq gw ga n1).2.2.2.2.1 ∧ go2 = (xc_run n FX nw ov tf FV FJ go gq gw ga n1).2.2.2.2.2.1 ∧ gq2 = (xc_run n FX nw ov tf FV FJ go gq gw ga n1).2.2.2.2.2.2.1 ∧ gw2 = (xc_run n FX nw ov tf FV FJ go gq gw ga n1).2.2.2.2.2.2.2.1 ∧ ga2 = (xc_run n FX nw ov tf FV FJ go gq gw ga n1).2.2.2.2.2.2.2.2.1) ∧ pw_t D cI cJ cZ cO A (([(b0, cbC r0 fl nw2), (fl, flC cO n fa), (r0, rdC ov2 (va_rf ol2) r1 r2 r3 r4 r5), (r1, chC cf2 cl2 zn2 0), (r2, chC cf2 cl2 zn2 1), (r3, chC cf2 cl2 zn2 2), (r4, chC cf2 cl2 zn2 3), (r5, tlC cI tf2)] ++ va_pl L2 (pf cJ kd2 pi2 bd2 af2 bo2)) ++ fls cJ fa FX FV2 FJ2 n) t) A) #[(.ref b0 : Value), (.int n1 : Value)] s 48100 264300 A) := ⟨_, rfl⟩
      have loopO : ∀ (k : Nat) (c0 : Nat) (nw i4 : Int32) (ov tf : Nat → Int32) (ol : Option Nat) (cf cl : Nat → Option Nat) (zn : Nat → Int32) (xl : Nat → List Nat) (tag : Nat → Nat) (L : List Nat) (kd : Nat → Bool) (pi : Nat → Nat → Int32) (bd : Nat → Nat) (af : Nat → Option Nat) (bo : Nat → Nat → Int64) (go : Option S4) (gq : List S3) (gw : List S4) (ga : List A6) (FV : Nat → Nat → Nat → Int32) (FJ : Nat → Nat → Nat → Int64) (H : Heap) (locs : List Loc), va_P D vwCl (([(b0, cbC r0 fl nw), (fl, flC cO n fa), (r0, rdC ov (va_rf ol) r1 r2 r3 r4 r5), (r1, chC cf cl zn 0), (r2, chC cf cl zn 1), (r3, chC cf cl zn 2), (r4, chC cf cl zn 3), (r5, tlC cI tf)] ++ va_pl L (pf cJ kd pi bd af bo)) ++ fls cJ fa FX FV FJ n) H → va_D A (([(b0, cbC r0 fl nw), (fl, flC cO n fa), (r0, rdC ov (va_rf ol) r1 r2 r3 r4 r5), (r1, chC cf cl zn 0), (r2, chC cf cl zn 1), (r3, chC cf cl zn 2), (r4, chC cf cl zn 3), (r5, tlC cI tf)] ++ va_pl L (pf cJ kd pi bd af bo)) ++ fls cJ fa FX FV FJ n) → va_S A s.heap H locs → RI L kd af tag cf cl xl ol → PB L kd pi bd → ZN zn xl → GG xl pi bd bo ol go gq gw ga → JB L kd bd → 0 ≤ ov 10 → LK ov → (TI nw (dz pi (xl 1)) (dz pi (xl 2)) ∧ tot xl ol = t0 + c0 ∧ tot xl ol ≤ 12000 ∧ (xl 0).length ≤ 100) → gr s.heap H (0 + c0) → ∀ (ls : Array Slot), lv_has ls 9 [(0, .ref b0), (1, .int n1), (2, .int x_169), (3, .int x_170), (4, .int i4)] → RES = xc_runO n FX n1 x_169 x_170 k i4 nw ov tf FV FJ go gq gw ga → (n1.toInt - i4.toInt).toNat < k → W p l e ({ frames := 7, cells := 48100, slots := 264300, locals := 163 }) s m #[(.ref b0 : Value), (.int n1 : Value)] below meth c H locs (2 * (0 + c0)) (11 * (0 + c0)) QP (F0 m 42 ls []) := by
        intro k
        induction k with
        | zero => intros; exact absurd ‹_ < 0› (Nat.not_lt_zero _)
        | succ k ih42 =>
          intro c0 nw i4 ov tf ol cf cl zn xl tag L kd pi bd af bo go gq gw ga FV FJ H locs hP hD hS hR hPB hZ hG hJ hT hLK hTK hg0 ls hl hE hm
          have hB_c0 : c0 ≤ 12000 := by have h8 := hTK.2.1; have h9 := hTK.2.2.1; omega
          obtain ⟨REC, hREC⟩ : ∃ y, y = xc_runO n FX n1 x_169 x_170 k := ⟨_, rfl⟩
          rw [xc_runO, ← hREC] at hE
          have hmO := hm
          obtain ⟨hTI, ht1, ht2, hq0⟩ := hTK
          have hn0 := hTI.1.1
          have hn9 := hTI.1.2
          refine lv_iload hx hb dX10_run_42 (lv_at hl 4 rfl) ?_
          refine lv_iload_n hx hb dX10_run_44 rfl (lv_at hl 1 rfl) ?_
          refine lv_icmp_ge (tgt := 194) hx hb dX10_run_45 (by decide) (fun c_171 => ?_) (fun c_171 => ?_)
          · have hE := hE.trans (if_pos c_171)
            refine lv_aload_n hx hb dX10_run_194 rfl (lv_at hl 0 rfl) ?_
            refine va_get (D := D) (ci := 10) (v := .ref r0) (C := RX10) (T := TX10) (N := 3) hx hb ha inlX10 hown hK hP 0 rfl rfl 0 (by decide) (ha _ kf_X10_10) (fun _ h9 => h9) rfl dX10_run_195 ?_
            refine va_getN (D := D) (ci := 7) (v := .int (ov 11)) (C := RX7) (T := TX7) (N := 15) hx hb ha inlX7 hown hK hP 2 rfl rfl 11 (by decide) (va_Nw.use rfl (hN.f RX10 65 "CongestionBench$Road" "sent" "I" "CongestionBench" (by decide +kernel))) (fun _ h9 => h9) rfl dX10_run_198 ?_
            refine lv_topi (fun x_172 ex_172 => ?_)
            have hE := bd_at ex_172 hE
            refine lv_iload_n hx hb dX10_run_201 rfl (lv_at hl 2 rfl) ?_
            refine lv_isub hx hb dX10_run_202 ?_
            refine lv_topi (fun x_173 ex_173 => ?_)
            have hE := bd_at ex_173 hE
            rw [hQP]
            refine W.know2 (fun hk1 hk2 => ?_)
            have hg0 : gr s.heap _ (0 + c0) := ⟨hk1, hk2⟩
            refine W.widen (k := 48100) (n := 264300) (by omega) (by omega) ?_
            have hP9 : va_P D vwCl (([(b0, cbC r0 fl nw), (fl, flC cO n fa), (r0, rdC ov (va_rf ol) r1 r2 r3 r4 r5), (r1, chC cf cl zn 0), (r2, chC cf cl zn 1), (r3, chC cf cl zn 2), (r4, chC cf cl zn 3), (r5, tlC cI tf)] ++ va_pl L (pf cJ kd pi bd af bo)) ++ fls cJ fa FX FV FJ n) _ := hP
            have hD9 : va_D A (([(b0, cbC r0 fl nw), (fl, flC cO n fa), (r0, rdC ov (va_rf ol) r1 r2 r3 r4 r5), (r1, chC cf cl zn 0), (r2, chC cf cl zn 1), (r3, chC cf cl zn 2), (r4, chC cf cl zn 3), (r5, tlC cI tf)] ++ va_pl L (pf cJ kd pi bd af bo)) ++ fls cJ fa FX FV FJ n) := hD
            exact W.iret (v := x_173) hx hb hr (fun t ht hW => ⟨⟨x_173, (), rfl, ⟨trivial, (by rw [← hRES, hE])⟩, ⟨nw, ov, tf, ol, cf, cl, zn, xl, tag, L, kd, pi, bd, af, bo, (0 + c0), go, gq, gw, ga, FV, FJ, ⟨⟨hR, hPB, hZ, hT, by rw [ht]; exact hg0, hLK, hq0, by rw [ht1, ht0]; omega, ht2, hTI⟩, ⟨hG, hJ⟩, (by rw [← hRES, hE]), (by rw [← hRES, hE]), (by rw [← hRES, hE]), (by rw [← hRES, hE]), (by rw [← hRES, hE]), (by rw [← hRES, hE]), (by rw [← hRES, hE]), (by rw [← hRES, hE]), (by rw [← hRES, hE])⟩, by rw [ht]; exact hP9, va_K.moved hW.alike hK, hD9⟩⟩, hS.F ht⟩) hS.2.2 dX10_run_203
          · have hE := hE.trans (if_neg c_171)
            refine lv_aload_n hx hb dX10_run_48 rfl (lv_at hl 0 rfl) ?_
            refine va_get (D := D) (ci := 10) (v := .int nw) (C := RX10) (T := TX10) (N := 3) hx hb ha inlX10 hown hK hP 0 rfl rfl 2 (by decide) (ha _ kf_X10_60) (fun _ h9 => h9) rfl dX10_run_49 ?_
            refine lv_iload_n hx hb dX10_run_52 rfl (lv_at hl 3 rfl) ?_
            refine lv_icmp_ge (tgt := 194) hx hb dX10_run_53 (by decide) (fun c_174 => ?_) (fun c_174 => ?_)
            · have hE := hE.trans (if_pos c_174)
              refine lv_aload_n hx hb dX10_run_194 rfl (lv_at hl 0 rfl) ?_
              refine va_get (D := D) (ci := 10) (v := .ref r0) (C := RX10) (T := TX10) (N := 3) hx hb ha inlX10 hown hK hP 0 rfl rfl 0 (by decide) (ha _ kf_X10_10) (fun _ h9 => h9) rfl dX10_run_195 ?_
              refine va_getN (D := D) (ci := 7) (v := .int (ov 11)) (C := RX7) (T := TX7) (N := 15) hx hb ha inlX7 hown hK hP 2 rfl rfl 11 (by decide) (va_Nw.use rfl (hN.f RX10 65 "CongestionBench$Road" "sent" "I" "CongestionBench" (by decide +kernel))) (fun _ h9 => h9) rfl dX10_run_198 ?_
              refine lv_topi (fun x_175 ex_175 => ?_)
              have hE := bd_at ex_175 hE
              refine lv_iload_n hx hb dX10_run_201 rfl (lv_at hl 2 rfl) ?_
              refine lv_isub hx hb dX10_run_202 ?_
              refine lv_topi (fun x_176 ex_176 => ?_)
              have hE := bd_at ex_176 hE
              rw [hQP]
              refine W.know2 (fun hk1 hk2 => ?_)
              have hg0 : gr s.heap _ (0 + c0) := ⟨hk1, hk2⟩
              refine W.widen (k := 48100) (n := 264300) (by omega) (by omega) ?_
              have hP9 : va_P D vwCl (([(b0, cbC r0 fl nw), (fl, flC cO n fa), (r0, rdC ov (va_rf ol) r1 r2 r3 r4 r5), (r1, chC cf cl zn 0), (r2, chC cf cl zn 1), (r3, chC cf cl zn 2), (r4, chC cf cl zn 3), (r5, tlC cI tf)] ++ va_pl L (pf cJ kd pi bd af bo)) ++ fls cJ fa FX FV FJ n) _ := hP
              have hD9 : va_D A (([(b0, cbC r0 fl nw), (fl, flC cO n fa), (r0, rdC ov (va_rf ol) r1 r2 r3 r4 r5), (r1, chC cf cl zn 0), (r2, chC cf cl zn 1), (r3, chC cf cl zn 2), (r4, chC cf cl zn 3), (r5, tlC cI tf)] ++ va_pl L (pf cJ kd pi bd af bo)) ++ fls cJ fa FX FV FJ n) := hD
              exact W.iret (v := x_176) hx hb hr (fun t ht hW => ⟨⟨x_176, (), rfl, ⟨trivial, (by rw [← hRES, hE])⟩, ⟨nw, ov, tf, ol, cf, cl, zn, xl, tag, L, kd, pi, bd, af, bo, (0 + c0), go, gq, gw, ga, FV, FJ, ⟨⟨hR, hPB, hZ, hT, by rw [ht]; exact hg0, hLK, hq0, by rw [ht1, ht0]; omega, ht2, hTI⟩, ⟨hG, hJ⟩, (by rw [← hRES, hE]), (by rw [← hRES, hE]), (by rw [← hRES, hE]), (by rw [← hRES, hE]), (by rw [← hRES, hE]), (by rw [← hRES, hE]), (by rw [← hRES, hE]), (by rw [← hRES, hE]), (by rw [← hRES, hE])⟩, by rw [ht]; exact hP9, va_K.moved hW.alike hK, hD9⟩⟩, hS.F ht⟩) hS.2.2 dX10_run_203
            · have hE := hE.trans (if_neg c_174)
              have hnE : nw.toInt < x_170.toInt := Int32.lt_iff_toInt_lt.mp (Int32.not_le.mp c_174)
              refine lv_aload_n hx hb dX10_run_56 rfl (lv_at hl 0 rfl) ?_
              refine va_get (D := D) (ci := 10) (v := .ref r0) (C := RX10) (T := TX10) (N := 3) hx hb ha inlX10 hown hK hP 0 rfl rfl 0 (by decide) (ha _ kf_X10_10) (fun _ h9 => h9) rfl dX10_run_57 ?_
              refine lv_aload_n hx hb dX10_run_60 rfl (lv_at hl 0 rfl) ?_
              refine va_get (D := D) (ci := 10) (v := .int nw) (C := RX10) (T := TX10) (N := 3) hx hb ha inlX10 hown hK hP 0 rfl rfl 2 (by decide) (ha _ kf_X10_60) (fun _ h9 => h9) rfl dX10_run_61 ?_
              have hp0 := perm_idx (X := [(b0, cbC r0 fl nw), (fl, flC cO n fa), (r0, rdC ov (va_rf ol) r1 r2 r3 r4 r5), (r1, chC cf cl zn 0), (r2, chC cf cl zn 1), (r3, chC cf cl zn 2), (r4, chC cf cl zn 3), (r5, tlC cI tf)]) (Y := [(r0, rdC ov (va_rf ol) r1 r2 r3 r4 r5), (r1, chC cf cl zn 0), (r2, chC cf cl zn 1), (r3, chC cf cl zn 2), (r4, chC cf cl zn 3)] ++ [(b0, cbC r0 fl nw), (fl, flC cO n fa), (r5, tlC cI tf)]) (N := 8) [2, 3, 4, 5, 6, 0, 1, 7] rfl rfl (by decide)
              have hPq := hP.perm (pm_P (cx := [(r0, rdC ov (va_rf ol) r1 r2 r3 r4 r5), (r1, chC cf cl zn 0), (r2, chC cf cl zn 1), (r3, chC cf cl zn 2), (r4, chC cf cl zn 3)]) (xr := [(b0, cbC r0 fl nw), (fl, flC cO n fa), (r5, tlC cI tf)]) (pl := va_pl L (pf cJ kd pi bd af bo)) (R := fls cJ fa FX FV FJ n) hp0)
              have hDq := hD.perm (pm_P (cx := [(r0, rdC ov (va_rf ol) r1 r2 r3 r4 r5), (r1, chC cf cl zn 0), (r2, chC cf cl zn 1), (r3, chC cf cl zn 2), (r4, chC cf cl zn 3)]) (xr := [(b0, cbC r0 fl nw), (fl, flC cO n fa), (r5, tlC cI tf)]) (pl := va_pl L (pf cJ kd pi bd af bo)) (R := fls cJ fa FX FV FJ n) hp0)
              have hPc := hPq.left
              have hDc := hDq.left
              have hFc := va_freeR hDq hS hA
              refine va_callv (va_runV (As := [.int nw]) (rest := []) ⟨hx, hb, hml, hown, ha⟩ (s_moveLink l D cI cJ cZ cO _ r0 r1 r2 r3 r4 r5 ov ol cf cl zn xl tag L kd pi bd af bo go gq gw ga nw hR hPB hZ hG hJ hTI.2.1) (cwV 1 ha (gaV kl_X10_68 km_X7_moveLink ks_X7_moveLink kz_X7 kd_X7_moveLink) rfl rfl rfl (by decide +kernel) ⟨Nat.le_of_ble_eq_true rfl, Nat.le_of_ble_eq_true rfl⟩) ⟨pw_blind, va_recv hK hPc (ci := 7) (q0 := 0) rfl rfl, fun U hU hW => ⟨rfl, pw_start hU hW hPc hK hDc hN⟩⟩ rfl rfl hl.1 rfl (lv_room (Nat.le_of_ble_eq_true rfl)) dX10_run_64 ⟨show 2 * (0 + c0) + 0 ≤ 48100 by omega, show 11 * (0 + c0) + 0 ≤ 264300 by omega⟩) hS (fun q _ h => hFc q h) hFc (fun u t H1 locs ht hvm hw hB hz1 hk1 hS => ?_)
              obtain ⟨ol, cf, cl, zn, xl, tag, pi, af, q_186, go, gq, gw, ⟨hf_190, ⟨hG, hJ⟩, hX0, hX1, hX2⟩, hP1, hK1, hD1⟩ := hB
              have hE := bd_at rfl hE
              have hE := bd_at hX0 hE
              have hE := bd_at hX1 hE
              have hE := bd_at hX2 hE
              rw [ht] at hP1
              obtain ⟨hP, hD⟩ := va_joinR (w1 := ([(r0, rdC ov (va_rf ol) r1 r2 r3 r4 r5), (r1, chC cf cl zn 0), (r2, chC cf cl zn 1), (r3, chC cf cl zn 2), (r4, chC cf cl zn 3)] ++ va_pl L (pf cJ kd pi bd af bo))) hPq hDq hk1 hFc hP1 hD1
              have hP := hP.perm (pm_Pb (xr := [(b0, cbC r0 fl nw), (fl, flC cO n fa), (r5, tlC cI tf)]) (rx := [(r0, rdC ov (va_rf ol) r1 r2 r3 r4 r5), (r1, chC cf cl zn 0), (r2, chC cf cl zn 1), (r3, chC cf cl zn 2), (r4, chC cf cl zn 3)]) (pl := va_pl L (pf cJ kd pi bd af bo)) (R := fls cJ fa FX FV FJ n))
              have hD := hD.perm (pm_Pb (xr := [(b0, cbC r0 fl nw), (fl, flC cO n fa), (r5, tlC cI tf)]) (rx := [(r0, rdC ov (va_rf ol) r1 r2 r3 r4 r5), (r1, chC cf cl zn 0), (r2, chC cf cl zn 1), (r3, chC cf cl zn 2), (r4, chC cf cl zn 3)]) (pl := va_pl L (pf cJ kd pi bd af bo)) (R := fls cJ fa FX FV FJ n))
              clear hp0 hPq hDq hPc hDc hP1 hD1
              generalize H1 = H at hP hS ⊢
              have hP : va_P D vwCl (([(b0, cbC r0 fl nw), (fl, flC cO n fa), (r5, tlC cI tf), (r0, rdC ov (va_rf ol) r1 r2 r3 r4 r5), (r1, chC cf cl zn 0), (r2, chC cf cl zn 1), (r3, chC cf cl zn 2), (r4, chC cf cl zn 3)] ++ va_pl L (pf cJ kd pi bd af bo)) ++ fls cJ fa FX FV FJ n) H := hP
              have hD : va_D A (([(b0, cbC r0 fl nw), (fl, flC cO n fa), (r5, tlC cI tf), (r0, rdC ov (va_rf ol) r1 r2 r3 r4 r5), (r1, chC cf cl zn 0), (r2, chC cf cl zn 1), (r3, chC cf cl zn 2), (r4, chC cf cl zn 3)] ++ va_pl L (pf cJ kd pi bd af bo)) ++ fls cJ fa FX FV FJ n) := hD
              have hpo := pm_X (pl := va_pl L (pf cJ kd pi bd af bo)) (R := fls cJ fa FX FV FJ n) (perm_idx (X := [(b0, cbC r0 fl nw), (fl, flC cO n fa), (r5, tlC cI tf), (r0, rdC ov (va_rf ol) r1 r2 r3 r4 r5), (r1, chC cf cl zn 0), (r2, chC cf cl zn 1), (r3, chC cf cl zn 2), (r4, chC cf cl zn 3)]) (Y := [(b0, cbC r0 fl nw), (fl, flC cO n fa), (r0, rdC ov (va_rf ol) r1 r2 r3 r4 r5), (r1, chC cf cl zn 0), (r2, chC cf cl zn 1), (r3, chC cf cl zn 2), (r4, chC cf cl zn 3), (r5, tlC cI tf)]) (N := 8) [0, 1, 3, 4, 5, 6, 7, 2] rfl rfl (by decide))
              have hP := hP.perm hpo
              have hD := hD.perm hpo
              clear hpo
              have hP : va_P D vwCl (([(b0, cbC r0 fl nw), (fl, flC cO n fa), (r0, rdC ov (va_rf ol) r1 r2 r3 r4 r5), (r1, chC cf cl zn 0), (r2, chC cf cl zn 1), (r3, chC cf cl zn 2), (r4, chC cf cl zn 3), (r5, tlC cI tf)] ++ va_pl L (pf cJ kd pi bd af bo)) ++ fls cJ fa FX FV FJ n) H := hP
              have hD : va_D A (([(b0, cbC r0 fl nw), (fl, flC cO n fa), (r0, rdC ov (va_rf ol) r1 r2 r3 r4 r5), (r1, chC cf cl zn 0), (r2, chC cf cl zn 1), (r3, chC cf cl zn 2), (r4, chC cf cl zn 3), (r5, tlC cI tf)] ++ va_pl L (pf cJ kd pi bd af bo)) ++ fls cJ fa FX FV FJ n) := hD
              refine W.widen (k := 2 * (0 + c0)) (n := 11 * (0 + c0)) (Nat.le_refl _) (Nat.le_refl _) ?_
              have hTS := TS_of hTI hf_190.2.2.2.2 hf_190.2.2.2.1 hLK.2.1
              have hTK := TK_start (d := nw + ov 3) hTI hf_190.2.2.2.2 hq0 ht1 ht2
              have hR := hf_190.1
              have hPB := hf_190.2.1
              have hZ := hf_190.2.2.1
              obtain ⟨d, hd⟩ : ∃ y, nw + ov 3 = y := ⟨_, rfl⟩
              rw [hd] at hTK
              obtain ⟨v3, hv1, hv2⟩ : ∃ v, nw + v = d ∧ (1 ≤ v ∧ v ≤ 1000) := ⟨_, hd, hLK.2.2⟩
              have hwd := wd_lt hn0 hn9 hv1 hv2
              have hc : 120 + (dz pi (xl 1)).length + (dz pi (xl 2)).length ≤ 12000 := by have := hTS.2.2.2.2; omega
              generalize dz pi (xl 1) = W0 at hTS hTK hc
              generalize dz pi (xl 2) = A0 at hTS hTK hc
              clear hTI ht1 ht2 hq0 hf_190
              refine lv_aload_n hx hb dX10_run_67 rfl (lv_at hl 0 rfl) ?_
              have hp0 := perm_idx (X := [(b0, cbC r0 fl nw), (fl, flC cO n fa), (r0, rdC ov (va_rf ol) r1 r2 r3 r4 r5), (r1, chC cf cl zn 0), (r2, chC cf cl zn 1), (r3, chC cf cl zn 2), (r4, chC cf cl zn 3), (r5, tlC cI tf)]) (Y := [(b0, cbC r0 fl nw), (fl, flC cO n fa), (r0, rdC ov (va_rf ol) r1 r2 r3 r4 r5), (r1, chC cf cl zn 0), (r2, chC cf cl zn 1), (r3, chC cf cl zn 2), (r4, chC cf cl zn 3), (r5, tlC cI tf)] ++ []) (N := 8) [0, 1, 2, 3, 4, 5, 6, 7] rfl rfl (by decide)
              have hPq := hP.perm (pm_F (cx := [(b0, cbC r0 fl nw), (fl, flC cO n fa), (r0, rdC ov (va_rf ol) r1 r2 r3 r4 r5), (r1, chC cf cl zn 0), (r2, chC cf cl zn 1), (r3, chC cf cl zn 2), (r4, chC cf cl zn 3), (r5, tlC cI tf)]) (xr := []) (pl := va_pl L (pf cJ kd pi bd af bo)) (R := fls cJ fa FX FV FJ n) hp0)
              have hDq := hD.perm (pm_F (cx := [(b0, cbC r0 fl nw), (fl, flC cO n fa), (r0, rdC ov (va_rf ol) r1 r2 r3 r4 r5), (r1, chC cf cl zn 0), (r2, chC cf cl zn 1), (r3, chC cf cl zn 2), (r4, chC cf cl zn 3), (r5, tlC cI tf)]) (xr := []) (pl := va_pl L (pf cJ kd pi bd af bo)) (R := fls cJ fa FX FV FJ n) hp0)
              have hPc := hPq.left
              have hDc := hDq.left
              have hFc := va_freeR hDq hS hA
              refine W.know2 (fun hka hkb => ?_)
              have hg0 : gr s.heap _ (0 + c0) := ⟨hka, hkb⟩
              have hle0 := hS.1
              refine va_callv (va_runV (As := []) (rest := []) ⟨hx, hb, hml, hown, ha⟩ (s_bringSegments l D cI cJ cZ cO _ b0 fl nw n fa FX FV FJ hn r0 r1 r2 r3 r4 r5 ov ol cf cl zn xl tag L kd pi bd af bo go gq gw ga tf W0 A0 t0 d c0 False False hR hPB hZ hG hJ hT hLK hTK hd hwd hc) (cwV 0 ha (gaV kl_X10_72 km_X10_bringSegments ks_X10_bringSegments kz_X10 kd_X10_bringSegments) rfl rfl rfl (by decide +kernel) ⟨Nat.le_of_ble_eq_true rfl, Nat.le_of_ble_eq_true rfl⟩) ⟨pw_blindh, va_recv hK hPc (ci := 10) (q0 := 0) rfl rfl, fun U hU hW => ⟨rfl, pw_starth hU hW hPc hK hDc hN⟩⟩ rfl rfl hl.1 rfl (lv_room (Nat.le_of_ble_eq_true rfl)) dX10_run_68 ⟨show 2 * (0 + c0) + 24010 ≤ 48100 by omega, show 11 * (0 + c0) + 132110 ≤ 264300 by omega⟩) hS (fun q _ h => hFc q h) hFc (fun u t H1 locs ht hvm hw hB hz1 hk1 hS => ?_)
              obtain ⟨ov, tf, ol, cf, cl, zn, xl, tag, L, kd, pi, bd, af, bo, q_206, go, gq, gw, ga, FV, FJ, ⟨hf_213, ⟨hG, hJ⟩, hX0, hX1, hX2, hX3, hX4, hX5, hX6, hX7⟩, hP1, hK1, hD1⟩ := hB
              have hE := bd_at rfl hE
              have hE := bd_at hX0 hE
              have hE := bd_at hX1 hE
              have hE := bd_at hX2 hE
              have hE := bd_at hX3 hE
              have hE := bd_at hX4 hE
              have hE := bd_at hX5 hE
              have hE := bd_at hX6 hE
              have hE := bd_at hX7 hE
              rw [ht] at hP1
              rw [ht] at hf_213
              obtain ⟨hP, hD⟩ := va_joinR (w1 := (([(b0, cbC r0 fl nw), (fl, flC cO n fa), (r0, rdC ov (va_rf ol) r1 r2 r3 r4 r5), (r1, chC cf cl zn 0), (r2, chC cf cl zn 1), (r3, chC cf cl zn 2), (r4, chC cf cl zn 3), (r5, tlC cI tf)] ++ va_pl L (pf cJ kd pi bd af bo)) ++ fls cJ fa FX FV FJ n)) hPq hDq hk1 hFc hP1 hD1
              have hP := hP.perm (pm_Fb (xr := []) (rx := [(b0, cbC r0 fl nw), (fl, flC cO n fa), (r0, rdC ov (va_rf ol) r1 r2 r3 r4 r5), (r1, chC cf cl zn 0), (r2, chC cf cl zn 1), (r3, chC cf cl zn 2), (r4, chC cf cl zn 3), (r5, tlC cI tf)]) (pl := va_pl L (pf cJ kd pi bd af bo)) (R := fls cJ fa FX FV FJ n))
              have hD := hD.perm (pm_Fb (xr := []) (rx := [(b0, cbC r0 fl nw), (fl, flC cO n fa), (r0, rdC ov (va_rf ol) r1 r2 r3 r4 r5), (r1, chC cf cl zn 0), (r2, chC cf cl zn 1), (r3, chC cf cl zn 2), (r4, chC cf cl zn 3), (r5, tlC cI tf)]) (pl := va_pl L (pf cJ kd pi bd af bo)) (R := fls cJ fa FX FV FJ n))
              clear hp0 hPq hDq hPc hDc hP1 hD1
              generalize H1 = H at hP hS hf_213 ⊢
              have hP : va_P D vwCl (([(b0, cbC r0 fl nw), (fl, flC cO n fa), (r0, rdC ov (va_rf ol) r1 r2 r3 r4 r5), (r1, chC cf cl zn 0), (r2, chC cf cl zn 1), (r3, chC cf cl zn 2), (r4, chC cf cl zn 3), (r5, tlC cI tf)] ++ va_pl L (pf cJ kd pi bd af bo)) ++ fls cJ fa FX FV FJ n) H := hP
              have hD : va_D A (([(b0, cbC r0 fl nw), (fl, flC cO n fa), (r0, rdC ov (va_rf ol) r1 r2 r3 r4 r5), (r1, chC cf cl zn 0), (r2, chC cf cl zn 1), (r3, chC cf cl zn 2), (r4, chC cf cl zn 3), (r5, tlC cI tf)] ++ va_pl L (pf cJ kd pi bd af bo)) ++ fls cJ fa FX FV FJ n) := hD
              have hR := hf_213.1
              have hPB := hf_213.2.1
              have hZ := hf_213.2.2.1
              have hT := hf_213.2.2.2.1
              have hLK := hf_213.2.2.2.2.2.1
              have hd := hf_213.2.2.2.2.2.2.1
              have hTK := hf_213.2.2.2.2.2.2.2
              have hg0 := gr_trans hle0 hg0 hf_213.2.2.2.2.1
              obtain ⟨c_214, hc_214⟩ : ∃ y, y = c0 + q_206 := ⟨_, rfl⟩
              rw [show 0 + c0 + q_206 = 0 + c_214 by omega] at hg0
              rw [← hc_214] at hTK
              have hB_c_214 : c_214 ≤ 12000 := by have := (TK_b hTK).1; omega
              refine W.grown hg0 ?_
              clear hf_213
              refine lv_aload_n hx hb dX10_run_71 rfl (lv_at hl 0 rfl) ?_
              have hp0 := perm_idx (X := [(b0, cbC r0 fl nw), (fl, flC cO n fa), (r0, rdC ov (va_rf ol) r1 r2 r3 r4 r5), (r1, chC cf cl zn 0), (r2, chC cf cl zn 1), (r3, chC cf cl zn 2), (r4, chC cf cl zn 3), (r5, tlC cI tf)]) (Y := [(b0, cbC r0 fl nw), (fl, flC cO n fa), (r0, rdC ov (va_rf ol) r1 r2 r3 r4 r5), (r1, chC cf cl zn 0), (r2, chC cf cl zn 1), (r3, chC cf cl zn 2), (r4, chC cf cl zn 3), (r5, tlC cI tf)] ++ []) (N := 8) [0, 1, 2, 3, 4, 5, 6, 7] rfl rfl (by decide)
              have hPq := hP.perm (pm_F (cx := [(b0, cbC r0 fl nw), (fl, flC cO n fa), (r0, rdC ov (va_rf ol) r1 r2 r3 r4 r5), (r1, chC cf cl zn 0), (r2, chC cf cl zn 1), (r3, chC cf cl zn 2), (r4, chC cf cl zn 3), (r5, tlC cI tf)]) (xr := []) (pl := va_pl L (pf cJ kd pi bd af bo)) (R := fls cJ fa FX FV FJ n) hp0)
              have hDq := hD.perm (pm_F (cx := [(b0, cbC r0 fl nw), (fl, flC cO n fa), (r0, rdC ov (va_rf ol) r1 r2 r3 r4 r5), (r1, chC cf cl zn 0), (r2, chC cf cl zn 1), (r3, chC cf cl zn 2), (r4, chC cf cl zn 3), (r5, tlC cI tf)]) (xr := []) (pl := va_pl L (pf cJ kd pi bd af bo)) (R := fls cJ fa FX FV FJ n) hp0)
              have hPc := hPq.left
              have hDc := hDq.left
              have hFc := va_freeR hDq hS hA
              refine W.know2 (fun hka hkb => ?_)
              have hg0 : gr s.heap _ (0 + c_214) := ⟨hka, hkb⟩
              have hle0 := hS.1
              refine va_callv (va_runV (As := []) (rest := []) ⟨hx, hb, hml, hown, ha⟩ (s_tellWindows l D cI cJ cZ cO _ b0 fl nw n fa FX FV FJ hn r0 r1 r2 r3 r4 r5 ov ol cf cl zn xl tag L kd pi bd af bo go gq gw ga tf W0 A0 t0 d c_214 True False hR hPB hZ hG hJ hT hLK hTK hd hwd hc) (cwV 0 ha (gaV kl_X10_75 km_X10_tellWindowsAndAnswerLate ks_X10_tellWindowsAndAnswerLate kz_X10 kd_X10_tellWindowsAndAnswerLate) rfl rfl rfl (by decide +kernel) ⟨Nat.le_of_ble_eq_true rfl, Nat.le_of_ble_eq_true rfl⟩) ⟨pw_blindh, va_recv hK hPc (ci := 10) (q0 := 0) rfl rfl, fun U hU hW => ⟨rfl, pw_starth hU hW hPc hK hDc hN⟩⟩ rfl rfl hl.1 rfl (lv_room (Nat.le_of_ble_eq_true rfl)) dX10_run_72 ⟨show 2 * (0 + c_214) + 24010 ≤ 48100 by omega, show 11 * (0 + c_214) + 132110 ≤ 264300 by omega⟩) hS (fun q _ h => hFc q h) hFc (fun u t H1 locs ht hvm hw hB hz1 hk1 hS => ?_)
              obtain ⟨ov, tf, ol, cf, cl, zn, xl, tag, L, kd, pi, bd, af, bo, q_230, go, gq, gw, ga, FV, FJ, ⟨hf_237, ⟨hG, hJ⟩, hX0, hX1, hX2, hX3, hX4, hX5, hX6, hX7⟩, hP1, hK1, hD1⟩ := hB
              have hE := bd_at rfl hE
              have hE := bd_at hX0 hE
              have hE := bd_at hX1 hE
              have hE := bd_at hX2 hE
              have hE := bd_at hX3 hE
              have hE := bd_at hX4 hE
              have hE := bd_at hX5 hE
              have hE := bd_at hX6 hE
              have hE := bd_at hX7 hE
              rw [ht] at hP1
              rw [ht] at hf_237
              obtain ⟨hP, hD⟩ := va_joinR (w1 := (([(b0, cbC r0 fl nw), (fl, flC cO n fa), (r0, rdC ov (va_rf ol) r1 r2 r3 r4 r5), (r1, chC cf cl zn 0), (r2, chC cf cl zn 1), (r3, chC cf cl zn 2), (r4, chC cf cl zn 3), (r5, tlC cI tf)] ++ va_pl L (pf cJ kd pi bd af bo)) ++ fls cJ fa FX FV FJ n)) hPq hDq hk1 hFc hP1 hD1
              have hP := hP.perm (pm_Fb (xr := []) (rx := [(b0, cbC r0 fl nw), (fl, flC cO n fa), (r0, rdC ov (va_rf ol) r1 r2 r3 r4 r5), (r1, chC cf cl zn 0), (r2, chC cf cl zn 1), (r3, chC cf cl zn 2), (r4, chC cf cl zn 3), (r5, tlC cI tf)]) (pl := va_pl L (pf cJ kd pi bd af bo)) (R := fls cJ fa FX FV FJ n))
              have hD := hD.perm (pm_Fb (xr := []) (rx := [(b0, cbC r0 fl nw), (fl, flC cO n fa), (r0, rdC ov (va_rf ol) r1 r2 r3 r4 r5), (r1, chC cf cl zn 0), (r2, chC cf cl zn 1), (r3, chC cf cl zn 2), (r4, chC cf cl zn 3), (r5, tlC cI tf)]) (pl := va_pl L (pf cJ kd pi bd af bo)) (R := fls cJ fa FX FV FJ n))
              clear hp0 hPq hDq hPc hDc hP1 hD1
              generalize H1 = H at hP hS hf_237 ⊢
              have hP : va_P D vwCl (([(b0, cbC r0 fl nw), (fl, flC cO n fa), (r0, rdC ov (va_rf ol) r1 r2 r3 r4 r5), (r1, chC cf cl zn 0), (r2, chC cf cl zn 1), (r3, chC cf cl zn 2), (r4, chC cf cl zn 3), (r5, tlC cI tf)] ++ va_pl L (pf cJ kd pi bd af bo)) ++ fls cJ fa FX FV FJ n) H := hP
              have hD : va_D A (([(b0, cbC r0 fl nw), (fl, flC cO n fa), (r0, rdC ov (va_rf ol) r1 r2 r3 r4 r5), (r1, chC cf cl zn 0), (r2, chC cf cl zn 1), (r3, chC cf cl zn 2), (r4, chC cf cl zn 3), (r5, tlC cI tf)] ++ va_pl L (pf cJ kd pi bd af bo)) ++ fls cJ fa FX FV FJ n) := hD
              have hR := hf_237.1
              have hPB := hf_237.2.1
              have hZ := hf_237.2.2.1
              have hT := hf_237.2.2.2.1
              have hLK := hf_237.2.2.2.2.2.1
              have hTK := hf_237.2.2.2.2.2.2
              have hg0 := gr_trans hle0 hg0 hf_237.2.2.2.2.1
              obtain ⟨c_238, hc_238⟩ : ∃ y, y = c_214 + q_230 := ⟨_, rfl⟩
              rw [show 0 + c_214 + q_230 = 0 + c_238 by omega] at hg0
              rw [← hc_238] at hTK
              have hB_c_238 : c_238 ≤ 12000 := by have := (TK_b hTK).1; omega
              refine W.grown hg0 ?_
              clear hf_237
              refine lv_aload_n hx hb dX10_run_75 rfl (lv_at hl 0 rfl) ?_
              have hp0 := perm_idx (X := [(b0, cbC r0 fl nw), (fl, flC cO n fa), (r0, rdC ov (va_rf ol) r1 r2 r3 r4 r5), (r1, chC cf cl zn 0), (r2, chC cf cl zn 1), (r3, chC cf cl zn 2), (r4, chC cf cl zn 3), (r5, tlC cI tf)]) (Y := [(b0, cbC r0 fl nw), (fl, flC cO n fa), (r0, rdC ov (va_rf ol) r1 r2 r3 r4 r5), (r1, chC cf cl zn 0), (r2, chC cf cl zn 1), (r3, chC cf cl zn 2), (r4, chC cf cl zn 3), (r5, tlC cI tf)] ++ []) (N := 8) [0, 1, 2, 3, 4, 5, 6, 7] rfl rfl (by decide)
              have hPq := hP.perm (pm_F (cx := [(b0, cbC r0 fl nw), (fl, flC cO n fa), (r0, rdC ov (va_rf ol) r1 r2 r3 r4 r5), (r1, chC cf cl zn 0), (r2, chC cf cl zn 1), (r3, chC cf cl zn 2), (r4, chC cf cl zn 3), (r5, tlC cI tf)]) (xr := []) (pl := va_pl L (pf cJ kd pi bd af bo)) (R := fls cJ fa FX FV FJ n) hp0)
              have hDq := hD.perm (pm_F (cx := [(b0, cbC r0 fl nw), (fl, flC cO n fa), (r0, rdC ov (va_rf ol) r1 r2 r3 r4 r5), (r1, chC cf cl zn 0), (r2, chC cf cl zn 1), (r3, chC cf cl zn 2), (r4, chC cf cl zn 3), (r5, tlC cI tf)]) (xr := []) (pl := va_pl L (pf cJ kd pi bd af bo)) (R := fls cJ fa FX FV FJ n) hp0)
              have hPc := hPq.left
              have hDc := hDq.left
              have hFc := va_freeR hDq hS hA
              refine W.know2 (fun hka hkb => ?_)
              have hg0 : gr s.heap _ (0 + c_238) := ⟨hka, hkb⟩
              have hle0 := hS.1
              refine va_callv (va_runV (As := []) (rest := []) ⟨hx, hb, hml, hown, ha⟩ (s_bringAcks l D cI cJ cZ cO _ b0 fl nw n fa FX FV FJ hn r0 r1 r2 r3 r4 r5 ov ol cf cl zn xl tag L kd pi bd af bo go gq gw ga tf W0 A0 t0 d c_238 True False hR hPB hZ hG hJ hT hLK hTK hwd hc) (cwV 0 ha (gaV kl_X10_78 km_X10_bringAcks ks_X10_bringAcks kz_X10 kd_X10_bringAcks) rfl rfl rfl (by decide +kernel) ⟨Nat.le_of_ble_eq_true rfl, Nat.le_of_ble_eq_true rfl⟩) ⟨pw_blindh, va_recv hK hPc (ci := 10) (q0 := 0) rfl rfl, fun U hU hW => ⟨rfl, pw_starth hU hW hPc hK hDc hN⟩⟩ rfl rfl hl.1 rfl (lv_room (Nat.le_of_ble_eq_true rfl)) dX10_run_76 ⟨show 2 * (0 + c_238) + 24010 ≤ 48100 by omega, show 11 * (0 + c_238) + 132110 ≤ 264300 by omega⟩) hS (fun q _ h => hFc q h) hFc (fun u t H1 locs ht hvm hw hB hz1 hk1 hS => ?_)
              obtain ⟨ov, tf, ol, cf, cl, zn, xl, tag, L, kd, pi, bd, af, bo, q_254, go, gq, gw, ga, FV, FJ, ⟨hf_261, ⟨hG, hJ⟩, hX0, hX1, hX2, hX3, hX4, hX5, hX6, hX7⟩, hP1, hK1, hD1⟩ := hB
              have hE := bd_at rfl hE
              have hE := bd_at hX0 hE
              have hE := bd_at hX1 hE
              have hE := bd_at hX2 hE
              have hE := bd_at hX3 hE
              have hE := bd_at hX4 hE
              have hE := bd_at hX5 hE
              have hE := bd_at hX6 hE
              have hE := bd_at hX7 hE
              rw [ht] at hP1
              rw [ht] at hf_261
              obtain ⟨hP, hD⟩ := va_joinR (w1 := (([(b0, cbC r0 fl nw), (fl, flC cO n fa), (r0, rdC ov (va_rf ol) r1 r2 r3 r4 r5), (r1, chC cf cl zn 0), (r2, chC cf cl zn 1), (r3, chC cf cl zn 2), (r4, chC cf cl zn 3), (r5, tlC cI tf)] ++ va_pl L (pf cJ kd pi bd af bo)) ++ fls cJ fa FX FV FJ n)) hPq hDq hk1 hFc hP1 hD1
              have hP := hP.perm (pm_Fb (xr := []) (rx := [(b0, cbC r0 fl nw), (fl, flC cO n fa), (r0, rdC ov (va_rf ol) r1 r2 r3 r4 r5), (r1, chC cf cl zn 0), (r2, chC cf cl zn 1), (r3, chC cf cl zn 2), (r4, chC cf cl zn 3), (r5, tlC cI tf)]) (pl := va_pl L (pf cJ kd pi bd af bo)) (R := fls cJ fa FX FV FJ n))
              have hD := hD.perm (pm_Fb (xr := []) (rx := [(b0, cbC r0 fl nw), (fl, flC cO n fa), (r0, rdC ov (va_rf ol) r1 r2 r3 r4 r5), (r1, chC cf cl zn 0), (r2, chC cf cl zn 1), (r3, chC cf cl zn 2), (r4, chC cf cl zn 3), (r5, tlC cI tf)]) (pl := va_pl L (pf cJ kd pi bd af bo)) (R := fls cJ fa FX FV FJ n))
              clear hp0 hPq hDq hPc hDc hP1 hD1
              generalize H1 = H at hP hS hf_261 ⊢
              have hP : va_P D vwCl (([(b0, cbC r0 fl nw), (fl, flC cO n fa), (r0, rdC ov (va_rf ol) r1 r2 r3 r4 r5), (r1, chC cf cl zn 0), (r2, chC cf cl zn 1), (r3, chC cf cl zn 2), (r4, chC cf cl zn 3), (r5, tlC cI tf)] ++ va_pl L (pf cJ kd pi bd af bo)) ++ fls cJ fa FX FV FJ n) H := hP
              have hD : va_D A (([(b0, cbC r0 fl nw), (fl, flC cO n fa), (r0, rdC ov (va_rf ol) r1 r2 r3 r4 r5), (r1, chC cf cl zn 0), (r2, chC cf cl zn 1), (r3, chC cf cl zn 2), (r4, chC cf cl zn 3), (r5, tlC cI tf)] ++ va_pl L (pf cJ kd pi bd af bo)) ++ fls cJ fa FX FV FJ n) := hD
              have hR := hf_261.1
              have hPB := hf_261.2.1
              have hZ := hf_261.2.2.1
              have hT := hf_261.2.2.2.1
              have hLK := hf_261.2.2.2.2.2.1
              have hTK := hf_261.2.2.2.2.2.2
              have hg0 := gr_trans hle0 hg0 hf_261.2.2.2.2.1
              obtain ⟨c_262, hc_262⟩ : ∃ y, y = c_238 + q_254 := ⟨_, rfl⟩
              rw [show 0 + c_238 + q_254 = 0 + c_262 by omega] at hg0
              rw [← hc_262] at hTK
              have hB_c_262 : c_262 ≤ 12000 := by have := (TK_b hTK).1; omega
              refine W.grown hg0 ?_
              clear hf_261
              refine lv_aload_n hx hb dX10_run_79 rfl (lv_at hl 0 rfl) ?_
              refine va_get (D := D) (ci := 10) (v := .ref fl) (C := RX10) (T := TX10) (N := 3) hx hb ha inlX10 hown hK hP 0 rfl rfl 1 (by decide) (ha _ kf_X10_18) (fun _ h9 => h9) rfl dX10_run_80 ?_
              refine lv_astore (lv' := [(5, .ref fl), (0, .ref b0), (1, .int n1), (2, .int x_169), (3, .int x_170), (4, .int i4)]) hx hb dX10_run_83 hl (by decide) rfl (fun ls hl => ?_)
              refine lv_aload hx hb dX10_run_85 (lv_at hl 0 rfl) ?_
              refine va_alen hx hb hK hP 1 3 (v := nI n) rfl rfl rfl dX10_run_87 ?_
              refine lv_istore (lv' := [(6, .int (nI n)), (5, .ref fl), (0, .ref b0), (1, .int n1), (2, .int x_169), (3, .int x_170), (4, .int i4)]) hx hb dX10_run_88 hl (by decide) rfl (fun ls hl => ?_)
              refine lv_iconst (v := 0) hx hb dX10_run_90 (by decide) ?_
              refine lv_istore (lv' := [(7, .int 0), (6, .int (nI n)), (5, .ref fl), (0, .ref b0), (1, .int n1), (2, .int x_169), (3, .int x_170), (4, .int i4)]) hx hb dX10_run_91 hl (by decide) rfl (fun ls hl => ?_)
              have loopT : ∀ (k : Nat) (c0 : Nat) (j : Nat) (ov tf : Nat → Int32) (ol : Option Nat) (cf cl : Nat → Option Nat) (zn : Nat → Int32) (xl : Nat → List Nat) (tag : Nat → Nat) (L : List Nat) (kd : Nat → Bool) (pi : Nat → Nat → Int32) (bd : Nat → Nat) (af : Nat → Option Nat) (bo : Nat → Nat → Int64) (go : Option S4) (gq : List S3) (gw : List S4) (ga : List A6) (FV : Nat → Nat → Nat → Int32) (FJ : Nat → Nat → Nat → Int64) (H : Heap) (locs : List Loc), va_P D vwCl (([(b0, cbC r0 fl nw), (fl, flC cO n fa), (r0, rdC ov (va_rf ol) r1 r2 r3 r4 r5), (r1, chC cf cl zn 0), (r2, chC cf cl zn 1), (r3, chC cf cl zn 2), (r4, chC cf cl zn 3), (r5, tlC cI tf)] ++ va_pl L (pf cJ kd pi bd af bo)) ++ fls cJ fa FX FV FJ n) H → va_D A (([(b0, cbC r0 fl nw), (fl, flC cO n fa), (r0, rdC ov (va_rf ol) r1 r2 r3 r4 r5), (r1, chC cf cl zn 0), (r2, chC cf cl zn 1), (r3, chC cf cl zn 2), (r4, chC cf cl zn 3), (r5, tlC cI tf)] ++ va_pl L (pf cJ kd pi bd af bo)) ++ fls cJ fa FX FV FJ n) → va_S A s.heap H locs → RI L kd af tag cf cl xl ol → PB L kd pi bd → ZN zn xl → GG xl pi bd bo ol go gq gw ga → JB L kd bd → 0 ≤ ov 10 → LK ov → TK W0 A0 t0 nw d 8 True True xl pi ol c0 → gr s.heap H (0 + c0) → j ≤ n → ∀ (ls : Array Slot), lv_has ls 9 [(1, .int n1), (2, .int x_169), (3, .int x_170), (4, .int i4), (0, .ref b0), (5, .ref fl), (6, .int (nI n)), (7, .int (nI j))] → RES = xc_flT n FX x_170 REC nw i4 (n - j) j ov tf FV FJ go gq gw ga → n - j < k → W p l e ({ frames := 7, cells := 48100, slots := 264300, locals := 163 }) s m #[(.ref b0 : Value), (.int n1 : Value)] below meth c H locs (2 * (0 + c0)) (11 * (0 + c0)) QP (F0 m 93 ls []) := by
                intro k
                induction k with
                | zero => intros; exact absurd ‹_ < 0› (Nat.not_lt_zero _)
                | succ k ih93 =>
                  intro c0 j ov tf ol cf cl zn xl tag L kd pi bd af bo go gq gw ga FV FJ H locs hP hD hS hR hPB hZ hG hJ hT hLK hTK hg0 hjn ls hl hE hm
                  have hB_c0 : c0 ≤ 12000 := by have := (TK_b hTK).1; omega
                  refine lv_iload hx hb dX10_run_93 (lv_at hl 7 rfl) ?_
                  refine lv_iload hx hb dX10_run_95 (lv_at hl 6 rfl) ?_
                  refine lv_icmp_ge (tgt := 129) hx hb dX10_run_97 (by decide) (fun c_263 => ?_) (fun c_263 => ?_)
                  · rw [nI_sub0 hjn hn c_263, xc_flT] at hE
                    refine lv_aload_n hx hb dX10_run_129 rfl (lv_at hl 4 rfl) ?_
                    refine va_get (D := D) (ci := 10) (v := .ref fl) (C := RX10) (T := TX10) (N := 3) hx hb ha inlX10 hown hK hP 0 rfl rfl 1 (by decide) (ha _ kf_X10_18) (fun _ h9 => h9) rfl dX10_run_130 ?_
                    refine lv_astore (lv' := [(5, .ref fl), (1, .int n1), (2, .int x_169), (3, .int x_170), (4, .int i4), (0, .ref b0), (6, .int (nI n)), (7, .int (nI j))]) hx hb dX10_run_133 hl (by decide) rfl (fun ls hl => ?_)
                    refine lv_aload hx hb dX10_run_135 (lv_at hl 0 rfl) ?_
                    refine va_alen hx hb hK hP 1 3 (v := nI n) rfl rfl rfl dX10_run_137 ?_
                    refine lv_istore (lv' := [(6, .int (nI n)), (5, .ref fl), (1, .int n1), (2, .int x_169), (3, .int x_170), (4, .int i4), (0, .ref b0), (7, .int (nI j))]) hx hb dX10_run_138 hl (by decide) rfl (fun ls hl => ?_)
                    refine lv_iconst (v := 0) hx hb dX10_run_140 (by decide) ?_
                    refine lv_istore (lv' := [(7, .int 0), (6, .int (nI n)), (5, .ref fl), (1, .int n1), (2, .int x_169), (3, .int x_170), (4, .int i4), (0, .ref b0)]) hx hb dX10_run_141 hl (by decide) rfl (fun ls hl => ?_)
                    have loopS : ∀ (k : Nat) (c0 : Nat) (j : Nat) (ov tf : Nat → Int32) (ol : Option Nat) (cf cl : Nat → Option Nat) (zn : Nat → Int32) (xl : Nat → List Nat) (tag : Nat → Nat) (L : List Nat) (kd : Nat → Bool) (pi : Nat → Nat → Int32) (bd : Nat → Nat) (af : Nat → Option Nat) (bo : Nat → Nat → Int64) (go : Option S4) (gq : List S3) (gw : List S4) (ga : List A6) (FV : Nat → Nat → Nat → Int32) (FJ : Nat → Nat → Nat → Int64) (H : Heap) (locs : List Loc), va_P D vwCl (([(b0, cbC r0 fl nw), (fl, flC cO n fa), (r0, rdC ov (va_rf ol) r1 r2 r3 r4 r5), (r1, chC cf cl zn 0), (r2, chC cf cl zn 1), (r3, chC cf cl zn 2), (r4, chC cf cl zn 3), (r5, tlC cI tf)] ++ va_pl L (pf cJ kd pi bd af bo)) ++ fls cJ fa FX FV FJ n) H → va_D A (([(b0, cbC r0 fl nw), (fl, flC cO n fa), (r0, rdC ov (va_rf ol) r1 r2 r3 r4 r5), (r1, chC cf cl zn 0), (r2, chC cf cl zn 1), (r3, chC cf cl zn 2), (r4, chC cf cl zn 3), (r5, tlC cI tf)] ++ va_pl L (pf cJ kd pi bd af bo)) ++ fls cJ fa FX FV FJ n) → va_S A s.heap H locs → RI L kd af tag cf cl xl ol → PB L kd pi bd → ZN zn xl → GG xl pi bd bo ol go gq gw ga → JB L kd bd → 0 ≤ ov 10 → LK ov → TK W0 A0 t0 nw d 8 True True xl pi ol c0 → gr s.heap H (0 + c0) → j ≤ n → ∀ (ls : Array Slot), lv_has ls 9 [(1, .int n1), (2, .int x_169), (3, .int x_170), (4, .int i4), (0, .ref b0), (5, .ref fl), (6, .int (nI n)), (7, .int (nI j))] → RES = xc_flS n FX x_170 REC nw i4 (n - j) j ov tf FV FJ go gq gw ga → n - j < k → W p l e ({ frames := 7, cells := 48100, slots := 264300, locals := 163 }) s m #[(.ref b0 : Value), (.int n1 : Value)] below meth c H locs (2 * (0 + c0)) (11 * (0 + c0)) QP (F0 m 143 ls []) := by
                      intro k
                      induction k with
                      | zero => intros; exact absurd ‹_ < 0› (Nat.not_lt_zero _)
                      | succ k ih143 =>
                        intro c0 j ov tf ol cf cl zn xl tag L kd pi bd af bo go gq gw ga FV FJ H locs hP hD hS hR hPB hZ hG hJ hT hLK hTK hg0 hjn ls hl hE hm
                        have hB_c0 : c0 ≤ 12000 := by have := (TK_b hTK).1; omega
                        refine lv_iload hx hb dX10_run_143 (lv_at hl 7 rfl) ?_
                        refine lv_iload hx hb dX10_run_145 (lv_at hl 6 rfl) ?_
                        refine lv_icmp_ge (tgt := 179) hx hb dX10_run_147 (by decide) (fun c_264 => ?_) (fun c_264 => ?_)
                        · rw [nI_sub0 hjn hn c_264, xc_flS, xc_afS] at hE
                          refine lv_aload_n hx hb dX10_run_179 rfl (lv_at hl 4 rfl) ?_
                          refine lv_aload_n hx hb dX10_run_180 rfl (lv_at hl 4 rfl) ?_
                          refine lv_iload_n hx hb dX10_run_181 rfl (lv_at hl 2 rfl) ?_
                          have hp0 := perm_idx (X := [(b0, cbC r0 fl nw), (fl, flC cO n fa), (r0, rdC ov (va_rf ol) r1 r2 r3 r4 r5), (r1, chC cf cl zn 0), (r2, chC cf cl zn 1), (r3, chC cf cl zn 2), (r4, chC cf cl zn 3), (r5, tlC cI tf)]) (Y := [(b0, cbC r0 fl nw), (fl, flC cO n fa), (r0, rdC ov (va_rf ol) r1 r2 r3 r4 r5), (r1, chC cf cl zn 0), (r2, chC cf cl zn 1), (r3, chC cf cl zn 2), (r4, chC cf cl zn 3), (r5, tlC cI tf)] ++ []) (N := 8) [0, 1, 2, 3, 4, 5, 6, 7] rfl rfl (by decide)
                          have hPq := hP.perm (pm_F (cx := [(b0, cbC r0 fl nw), (fl, flC cO n fa), (r0, rdC ov (va_rf ol) r1 r2 r3 r4 r5), (r1, chC cf cl zn 0), (r2, chC cf cl zn 1), (r3, chC cf cl zn 2), (r4, chC cf cl zn 3), (r5, tlC cI tf)]) (xr := []) (pl := va_pl L (pf cJ kd pi bd af bo)) (R := fls cJ fa FX FV FJ n) hp0)
                          have hDq := hD.perm (pm_F (cx := [(b0, cbC r0 fl nw), (fl, flC cO n fa), (r0, rdC ov (va_rf ol) r1 r2 r3 r4 r5), (r1, chC cf cl zn 0), (r2, chC cf cl zn 1), (r3, chC cf cl zn 2), (r4, chC cf cl zn 3), (r5, tlC cI tf)]) (xr := []) (pl := va_pl L (pf cJ kd pi bd af bo)) (R := fls cJ fa FX FV FJ n) hp0)
                          have hPc := hPq.left
                          have hDc := hDq.left
                          have hFc := va_freeR hDq hS hA
                          refine va_calli (va_runV (As := [.int x_170]) (rest := [.ref b0]) ⟨hx, hb, hml, hown, ha⟩ (s_nextBusy l D cI cJ cZ cO _ b0 fl nw n fa FX FV FJ hn r0 r1 r2 r3 r4 r5 ov ol cf cl zn xl tag L kd pi bd af bo go gq gw ga tf x_170 hR hPB hZ hG hJ hn0 hnE hn2) (cwV 1 ha (gaV kl_X10_88 km_X10_nextBusyTick ks_X10_nextBusyTick kz_X10 kd_X10_nextBusyTick) rfl rfl rfl (by decide +kernel) ⟨Nat.le_of_ble_eq_true rfl, Nat.le_of_ble_eq_true rfl⟩) ⟨pw_blind, va_recv hK hPc (ci := 10) (q0 := 0) rfl rfl, fun U hU hW => ⟨rfl, pw_start hU hW hPc hK hDc hN⟩⟩ rfl rfl hl.1 rfl (lv_room (Nat.le_of_ble_eq_true rfl)) dX10_run_182 ⟨show 2 * (0 + c0) + 0 ≤ 48100 by omega, show 11 * (0 + c0) + 0 ≤ 264300 by omega⟩) hS (fun q _ h => hFc q h) hFc (fun r_265 u t H1 locs ht hvm hw hB hz1 hk1 hS => ?_)
                          obtain ⟨hP1, hK1, hD1⟩ := hB
                          have hE := bd_at rfl hE
                          have hE := bd_at hw.2 hE
                          rw [ht] at hP1
                          obtain ⟨hP, hD⟩ := va_joinR (w1 := (([(b0, cbC r0 fl nw), (fl, flC cO n fa), (r0, rdC ov (va_rf ol) r1 r2 r3 r4 r5), (r1, chC cf cl zn 0), (r2, chC cf cl zn 1), (r3, chC cf cl zn 2), (r4, chC cf cl zn 3), (r5, tlC cI tf)] ++ va_pl L (pf cJ kd pi bd af bo)) ++ fls cJ fa FX FV FJ n)) hPq hDq hk1 hFc hP1 hD1
                          have hP := hP.perm (pm_Fb (xr := []) (rx := [(b0, cbC r0 fl nw), (fl, flC cO n fa), (r0, rdC ov (va_rf ol) r1 r2 r3 r4 r5), (r1, chC cf cl zn 0), (r2, chC cf cl zn 1), (r3, chC cf cl zn 2), (r4, chC cf cl zn 3), (r5, tlC cI tf)]) (pl := va_pl L (pf cJ kd pi bd af bo)) (R := fls cJ fa FX FV FJ n))
                          have hD := hD.perm (pm_Fb (xr := []) (rx := [(b0, cbC r0 fl nw), (fl, flC cO n fa), (r0, rdC ov (va_rf ol) r1 r2 r3 r4 r5), (r1, chC cf cl zn 0), (r2, chC cf cl zn 1), (r3, chC cf cl zn 2), (r4, chC cf cl zn 3), (r5, tlC cI tf)]) (pl := va_pl L (pf cJ kd pi bd af bo)) (R := fls cJ fa FX FV FJ n))
                          clear hp0 hPq hDq hPc hDc hP1 hD1
                          generalize H1 = H at hP hS ⊢
                          have hP : va_P D vwCl (([(b0, cbC r0 fl nw), (fl, flC cO n fa), (r0, rdC ov (va_rf ol) r1 r2 r3 r4 r5), (r1, chC cf cl zn 0), (r2, chC cf cl zn 1), (r3, chC cf cl zn 2), (r4, chC cf cl zn 3), (r5, tlC cI tf)] ++ va_pl L (pf cJ kd pi bd af bo)) ++ fls cJ fa FX FV FJ n) H := hP
                          have hD : va_D A (([(b0, cbC r0 fl nw), (fl, flC cO n fa), (r0, rdC ov (va_rf ol) r1 r2 r3 r4 r5), (r1, chC cf cl zn 0), (r2, chC cf cl zn 1), (r3, chC cf cl zn 2), (r4, chC cf cl zn 3), (r5, tlC cI tf)] ++ va_pl L (pf cJ kd pi bd af bo)) ++ fls cJ fa FX FV FJ n) := hD
                          refine W.widen (k := 2 * (0 + c0)) (n := 11 * (0 + c0)) (Nat.le_refl _) (Nat.le_refl _) ?_
                          have hr_265 := hw.1
                          refine va_put (D := D) (ci := 10) (v := .int r_265) (ty := .int) (C := RX10) (T := TX10) (N := 3) hx hb ha inlX10 tyX10 tyX10_ok nmX10 hown hK hP hD hS 0 rfl rfl 2 (by decide) (ha _ kf_X10_60) (fun _ h9 => h9) rfl (by decide +kernel) rfl rfl (Nat.le_of_ble_eq_true rfl) dX10_run_185 (fun H locs hP hD hS => ?_)
                          have hP : va_P D vwCl (([(b0, cbC r0 fl r_265), (fl, flC cO n fa), (r0, rdC ov (va_rf ol) r1 r2 r3 r4 r5), (r1, chC cf cl zn 0), (r2, chC cf cl zn 1), (r3, chC cf cl zn 2), (r4, chC cf cl zn 3), (r5, tlC cI tf)] ++ va_pl L (pf cJ kd pi bd af bo)) ++ fls cJ fa FX FV FJ n) H := hP
                          have hD : va_D A (([(b0, cbC r0 fl r_265), (fl, flC cO n fa), (r0, rdC ov (va_rf ol) r1 r2 r3 r4 r5), (r1, chC cf cl zn 0), (r2, chC cf cl zn 1), (r3, chC cf cl zn 2), (r4, chC cf cl zn 3), (r5, tlC cI tf)] ++ va_pl L (pf cJ kd pi bd af bo)) ++ fls cJ fa FX FV FJ n) := hD
                          obtain ⟨x_266, ex_266⟩ : ∃ y : Int32, y = i4 + 1 := ⟨_, rfl⟩
                          refine lv_iinc (v := x_266) (lv' := [(4, .int x_266), (1, .int n1), (2, .int x_169), (3, .int x_170), (0, .ref b0), (5, .ref fl), (6, .int (nI n)), (7, .int (nI j))]) hx hb dX10_run_188 hl (k := 3) rfl (by rw [ex_266]; rfl) (by decide) rfl (fun ls hl => ?_)
                          refine lv_goto (tgt := 42) hx hb dX10_run_191 (by decide) ?_
                          rw [← ex_266, hREC] at hE
                          have hTI9 := TK_end hTS hTK hv1 hv2 hn0 hn9 hr_265.1 (Int.le_trans hr_265.2 hn2)
                          refine W.know2 (fun hka hkb => ?_)
                          have hg0 : gr s.heap _ (0 + c0) := ⟨hka, hkb⟩
                          exact ih42 c0 r_265 x_266 ov tf ol cf cl zn xl tag L kd pi bd af bo go gq gw ga FV FJ _ _ hP hD hS hR hPB hZ hG hJ hT hLK ⟨hTI9, hTK.2.2.2.1, (TK_b hTK).2.1, (TK_b hTK).2.2⟩ hg0 _ (lv_sub hl [4, 1, 2, 3, 0] rfl) hE (Nat.lt_of_lt_of_le (sw_up (b := n1) c_171 ex_266) (Nat.le_of_lt_succ hmO))
                        · have hq0 := (TK_b hTK).2.2
                          have hj : j < n := nI_lt_of hjn hn c_264
                          rw [show n - j = (n - (j + 1)) + 1 by omega, xc_flS] at hE
                          refine lv_aload hx hb dX10_run_150 (lv_at hl 5 rfl) ?_
                          refine lv_iload hx hb dX10_run_152 (lv_at hl 7 rfl) ?_
                          refine va_aldq hx hb hK hP 1 3 rfl rfl (vp_in_nI hj (by omega)) dX10_run_154 ?_
                          rw [nI_clamp (show j < 2 ^ 31 by omega)]
                          refine W.eq (g2 := F0 m 155 ls [.ref (fa j 0)]) rfl ?_
                          obtain ⟨FA_267, FB_268, hfe_269, hfu_270⟩ := fls_at (cJ := cJ) (fa := fa) (FX := FX) (FV := FV) (FJ := FJ) hj
                          have hpo := pm_open (X := [(b0, cbC r0 fl nw), (fl, flC cO n fa), (r0, rdC ov (va_rf ol) r1 r2 r3 r4 r5), (r1, chC cf cl zn 0), (r2, chC cf cl zn 1), (r3, chC cf cl zn 2), (r4, chC cf cl zn 3), (r5, tlC cI tf)]) (c := fcs cJ fa FX FV FJ j) (pl := va_pl L (pf cJ kd pi bd af bo)) hfe_269
                          have hP := hP.perm hpo
                          have hD := hD.perm hpo
                          clear hpo
                          have hP : va_P D vwCl (([(b0, cbC r0 fl nw), (fl, flC cO n fa), (r0, rdC ov (va_rf ol) r1 r2 r3 r4 r5), (r1, chC cf cl zn 0), (r2, chC cf cl zn 1), (r3, chC cf cl zn 2), (r4, chC cf cl zn 3), (r5, tlC cI tf), ((fa j 0), fwC (fa j 1) (fa j 9)), ((fa j 1), snC (FX j 0) (FX j 1) (FX j 2) (FV j 0) (fa j 2) (fa j 3) (fa j 8)), ((fa j 2), tmC (FV j 1)), ((fa j 3), boC (fa j 4) (fa j 6) (FV j 2)), ((fa j 4), mkC (fa j 5)), ((fa j 5), .inl (cJ, 4, .inr (.inl (FJ j 0)))), ((fa j 6), mkC (fa j 7)), ((fa j 7), .inl (cJ, 4, .inr (.inl (FJ j 1)))), ((fa j 8), cuC (FV j 3)), ((fa j 9), rcC (FX j 0) (FV j 4) (FX j 3) (fa j 10)), ((fa j 10), mkC (fa j 11)), ((fa j 11), .inl (cJ, 4, .inr (.inl (FJ j 2))))] ++ va_pl L (pf cJ kd pi bd af bo)) ++ (FA_267 ++ FB_268)) H := hP
                          have hD : va_D A (([(b0, cbC r0 fl nw), (fl, flC cO n fa), (r0, rdC ov (va_rf ol) r1 r2 r3 r4 r5), (r1, chC cf cl zn 0), (r2, chC cf cl zn 1), (r3, chC cf cl zn 2), (r4, chC cf cl zn 3), (r5, tlC cI tf), ((fa j 0), fwC (fa j 1) (fa j 9)), ((fa j 1), snC (FX j 0) (FX j 1) (FX j 2) (FV j 0) (fa j 2) (fa j 3) (fa j 8)), ((fa j 2), tmC (FV j 1)), ((fa j 3), boC (fa j 4) (fa j 6) (FV j 2)), ((fa j 4), mkC (fa j 5)), ((fa j 5), .inl (cJ, 4, .inr (.inl (FJ j 0)))), ((fa j 6), mkC (fa j 7)), ((fa j 7), .inl (cJ, 4, .inr (.inl (FJ j 1)))), ((fa j 8), cuC (FV j 3)), ((fa j 9), rcC (FX j 0) (FV j 4) (FX j 3) (fa j 10)), ((fa j 10), mkC (fa j 11)), ((fa j 11), .inl (cJ, 4, .inr (.inl (FJ j 2))))] ++ va_pl L (pf cJ kd pi bd af bo)) ++ (FA_267 ++ FB_268)) := hD
                          generalize hv0 : FV j 0 = sv at hP hD hE
                          generalize hv1 : FV j 1 = tv at hP hD hE
                          generalize hv2 : FV j 2 = bv at hP hD hE
                          generalize hv3 : FV j 3 = cv at hP hD hE
                          generalize hv4 : FV j 4 = rv at hP hD hE
                          generalize hj0 : FJ j 0 = f at hP hD hE
                          generalize hj1 : FJ j 1 = g at hP hD hE
                          generalize hj2 : FJ j 2 = kf at hP hD hE
                          refine lv_astore (lv' := [(8, .ref (fa j 0)), (1, .int n1), (2, .int x_169), (3, .int x_170), (4, .int i4), (0, .ref b0), (5, .ref fl), (6, .int (nI n)), (7, .int (nI j))]) hx hb dX10_run_155 hl (by decide) rfl (fun ls hl => ?_)
                          refine lv_aload hx hb dX10_run_157 (lv_at hl 0 rfl) ?_
                          refine va_getN (D := D) (ci := 3) (v := .ref (fa j 1)) (C := RX3) (T := TX3) (N := 2) hx hb ha inlX3 hown hK hP 8 rfl rfl 0 (by decide) (va_Nw.use rfl (hN.f RX10 38 "CongestionBench$Flow" "sender" "LCongestionBench$Sender;" "CongestionBench" (by decide +kernel))) (fun _ h9 => h9) rfl dX10_run_159 ?_
                          refine lv_aload_n hx hb dX10_run_162 rfl (lv_at hl 5 rfl) ?_
                          refine va_get (D := D) (ci := 10) (v := .ref r0) (C := RX10) (T := TX10) (N := 3) hx hb ha inlX10 hown hK hP 0 rfl rfl 0 (by decide) (ha _ kf_X10_10) (fun _ h9 => h9) rfl dX10_run_163 ?_
                          refine lv_aload_n hx hb dX10_run_166 rfl (lv_at hl 5 rfl) ?_
                          refine va_get (D := D) (ci := 10) (v := .int nw) (C := RX10) (T := TX10) (N := 3) hx hb ha inlX10 hown hK hP 0 rfl rfl 2 (by decide) (ha _ kf_X10_60) (fun _ h9 => h9) rfl dX10_run_167 ?_
                          have hp0 := perm_idx (X := [(b0, cbC r0 fl nw), (fl, flC cO n fa), (r0, rdC ov (va_rf ol) r1 r2 r3 r4 r5), (r1, chC cf cl zn 0), (r2, chC cf cl zn 1), (r3, chC cf cl zn 2), (r4, chC cf cl zn 3), (r5, tlC cI tf), ((fa j 0), fwC (fa j 1) (fa j 9)), ((fa j 1), snC (FX j 0) (FX j 1) (FX j 2) sv (fa j 2) (fa j 3) (fa j 8)), ((fa j 2), tmC tv), ((fa j 3), boC (fa j 4) (fa j 6) bv), ((fa j 4), mkC (fa j 5)), ((fa j 5), .inl (cJ, 4, .inr (.inl f))), ((fa j 6), mkC (fa j 7)), ((fa j 7), .inl (cJ, 4, .inr (.inl g))), ((fa j 8), cuC cv), ((fa j 9), rcC (FX j 0) rv (FX j 3) (fa j 10)), ((fa j 10), mkC (fa j 11)), ((fa j 11), .inl (cJ, 4, .inr (.inl kf)))]) (Y := [(r0, rdC ov (va_rf ol) r1 r2 r3 r4 r5), (r1, chC cf cl zn 0), (r2, chC cf cl zn 1), (r3, chC cf cl zn 2), (r4, chC cf cl zn 3), (r5, tlC cI tf), ((fa j 1), snC (FX j 0) (FX j 1) (FX j 2) sv (fa j 2) (fa j 3) (fa j 8)), ((fa j 2), tmC tv), ((fa j 3), boC (fa j 4) (fa j 6) bv), ((fa j 4), mkC (fa j 5)), ((fa j 5), .inl (cJ, 4, .inr (.inl f))), ((fa j 6), mkC (fa j 7)), ((fa j 7), .inl (cJ, 4, .inr (.inl g))), ((fa j 8), cuC cv)] ++ [(b0, cbC r0 fl nw), (fl, flC cO n fa), ((fa j 0), fwC (fa j 1) (fa j 9)), ((fa j 9), rcC (FX j 0) rv (FX j 3) (fa j 10)), ((fa j 10), mkC (fa j 11)), ((fa j 11), .inl (cJ, 4, .inr (.inl kf)))]) (N := 20) [2, 3, 4, 5, 6, 7, 9, 10, 11, 12, 13, 14, 15, 16, 0, 1, 8, 17, 18, 19] rfl rfl (by decide)
                          have hPq := hP.perm (pm_P (cx := [(r0, rdC ov (va_rf ol) r1 r2 r3 r4 r5), (r1, chC cf cl zn 0), (r2, chC cf cl zn 1), (r3, chC cf cl zn 2), (r4, chC cf cl zn 3), (r5, tlC cI tf), ((fa j 1), snC (FX j 0) (FX j 1) (FX j 2) sv (fa j 2) (fa j 3) (fa j 8)), ((fa j 2), tmC tv), ((fa j 3), boC (fa j 4) (fa j 6) bv), ((fa j 4), mkC (fa j 5)), ((fa j 5), .inl (cJ, 4, .inr (.inl f))), ((fa j 6), mkC (fa j 7)), ((fa j 7), .inl (cJ, 4, .inr (.inl g))), ((fa j 8), cuC cv)]) (xr := [(b0, cbC r0 fl nw), (fl, flC cO n fa), ((fa j 0), fwC (fa j 1) (fa j 9)), ((fa j 9), rcC (FX j 0) rv (FX j 3) (fa j 10)), ((fa j 10), mkC (fa j 11)), ((fa j 11), .inl (cJ, 4, .inr (.inl kf)))]) (pl := va_pl L (pf cJ kd pi bd af bo)) (R := (FA_267 ++ FB_268)) hp0)
                          have hDq := hD.perm (pm_P (cx := [(r0, rdC ov (va_rf ol) r1 r2 r3 r4 r5), (r1, chC cf cl zn 0), (r2, chC cf cl zn 1), (r3, chC cf cl zn 2), (r4, chC cf cl zn 3), (r5, tlC cI tf), ((fa j 1), snC (FX j 0) (FX j 1) (FX j 2) sv (fa j 2) (fa j 3) (fa j 8)), ((fa j 2), tmC tv), ((fa j 3), boC (fa j 4) (fa j 6) bv), ((fa j 4), mkC (fa j 5)), ((fa j 5), .inl (cJ, 4, .inr (.inl f))), ((fa j 6), mkC (fa j 7)), ((fa j 7), .inl (cJ, 4, .inr (.inl g))), ((fa j 8), cuC cv)]) (xr := [(b0, cbC r0 fl nw), (fl, flC cO n fa), ((fa j 0), fwC (fa j 1) (fa j 9)), ((fa j 9), rcC (FX j 0) rv (FX j 3) (fa j 10)), ((fa j 10), mkC (fa j 11)), ((fa j 11), .inl (cJ, 4, .inr (.inl kf)))]) (pl := va_pl L (pf cJ kd pi bd af bo)) (R := (FA_267 ++ FB_268)) hp0)
                          have hPc := hPq.left
                          have hDc := hDq.left
                          have hFc := va_freeR hDq hS hA
                          refine W.know2 (fun hka hkb => ?_)
                          have hg0 : gr s.heap _ (0 + c0) := ⟨hka, hkb⟩
                          have hle0 := hS.1
                          refine va_callv (va_runV (As := [.ref r0, .int nw]) (rest := []) ⟨hx, hb, hml, hown, ha⟩ (s_sendMay l D cI cJ cZ cO _ r0 r1 r2 r3 r4 r5 ov ol cf cl zn xl tag L kd pi bd af bo go gq gw ga tf (fa j 1) (fa j 2) (fa j 3) (fa j 4) (fa j 5) (fa j 6) (fa j 7) (fa j 8) (FX j 0) (FX j 1) (FX j 2) sv tv bv cv f g nw hR hPB hZ hG hJ hT hLK hq0 (TK_b hTK).2.1 (by have := TK_len hTK; omega)) (cwV 2 ha (gaV kl_X10_85 km_X8_sendWhatMay ks_X8_sendWhatMay kz_X8 kd_X8_sendWhatMay) rfl rfl rfl (by decide +kernel) ⟨Nat.le_of_ble_eq_true rfl, Nat.le_of_ble_eq_true rfl⟩) ⟨pw_blindh, va_recv hK hPc (ci := 8) (q0 := 6) rfl rfl, fun U hU hW => ⟨rfl, pw_starth hU hW hPc hK hDc hN⟩⟩ rfl rfl hl.1 rfl (lv_room (Nat.le_of_ble_eq_true rfl)) dX10_run_170 ⟨show 2 * (0 + c0) + 24010 ≤ 48100 by omega, show 11 * (0 + c0) + 132110 ≤ 264300 by omega⟩) hS (fun q _ h => hFc q h) hFc (fun u t H1 locs ht hvm hw hB hz1 hk1 hS => ?_)
                          obtain ⟨sv, tv, bv, cv, f, g, ov, tf, ol, cf, cl, zn, xl, tag, L, kd, pi, bd, af, bo, q_292, go, gq, ⟨hf_295, ⟨hG, hJ⟩, hX0, hX1, hX2, hX3, hX4, hX5, hX6, hX7, hX8, hX9⟩, hP1, hK1, hD1⟩ := hB
                          have hE := bd_at rfl hE
                          have hE := bd_at hX0 hE
                          have hE := bd_at hX1 hE
                          have hE := bd_at hX2 hE
                          have hE := bd_at hX3 hE
                          have hE := bd_at hX4 hE
                          have hE := bd_at hX5 hE
                          have hE := bd_at hX6 hE
                          have hE := bd_at hX7 hE
                          have hE := bd_at hX8 hE
                          have hE := bd_at hX9 hE
                          rw [ht] at hP1
                          rw [ht] at hf_295
                          obtain ⟨hP, hD⟩ := va_joinR (w1 := ([(r0, rdC ov (va_rf ol) r1 r2 r3 r4 r5), (r1, chC cf cl zn 0), (r2, chC cf cl zn 1), (r3, chC cf cl zn 2), (r4, chC cf cl zn 3), (r5, tlC cI tf), ((fa j 1), snC (FX j 0) (FX j 1) (FX j 2) sv (fa j 2) (fa j 3) (fa j 8)), ((fa j 2), tmC tv), ((fa j 3), boC (fa j 4) (fa j 6) bv), ((fa j 4), mkC (fa j 5)), ((fa j 5), .inl (cJ, 4, .inr (.inl f))), ((fa j 6), mkC (fa j 7)), ((fa j 7), .inl (cJ, 4, .inr (.inl g))), ((fa j 8), cuC cv)] ++ va_pl L (pf cJ kd pi bd af bo))) hPq hDq hk1 hFc hP1 hD1
                          have hP := hP.perm (pm_Pb (xr := [(b0, cbC r0 fl nw), (fl, flC cO n fa), ((fa j 0), fwC (fa j 1) (fa j 9)), ((fa j 9), rcC (FX j 0) rv (FX j 3) (fa j 10)), ((fa j 10), mkC (fa j 11)), ((fa j 11), .inl (cJ, 4, .inr (.inl kf)))]) (rx := [(r0, rdC ov (va_rf ol) r1 r2 r3 r4 r5), (r1, chC cf cl zn 0), (r2, chC cf cl zn 1), (r3, chC cf cl zn 2), (r4, chC cf cl zn 3), (r5, tlC cI tf), ((fa j 1), snC (FX j 0) (FX j 1) (FX j 2) sv (fa j 2) (fa j 3) (fa j 8)), ((fa j 2), tmC tv), ((fa j 3), boC (fa j 4) (fa j 6) bv), ((fa j 4), mkC (fa j 5)), ((fa j 5), .inl (cJ, 4, .inr (.inl f))), ((fa j 6), mkC (fa j 7)), ((fa j 7), .inl (cJ, 4, .inr (.inl g))), ((fa j 8), cuC cv)]) (pl := va_pl L (pf cJ kd pi bd af bo)) (R := (FA_267 ++ FB_268)))
                          have hD := hD.perm (pm_Pb (xr := [(b0, cbC r0 fl nw), (fl, flC cO n fa), ((fa j 0), fwC (fa j 1) (fa j 9)), ((fa j 9), rcC (FX j 0) rv (FX j 3) (fa j 10)), ((fa j 10), mkC (fa j 11)), ((fa j 11), .inl (cJ, 4, .inr (.inl kf)))]) (rx := [(r0, rdC ov (va_rf ol) r1 r2 r3 r4 r5), (r1, chC cf cl zn 0), (r2, chC cf cl zn 1), (r3, chC cf cl zn 2), (r4, chC cf cl zn 3), (r5, tlC cI tf), ((fa j 1), snC (FX j 0) (FX j 1) (FX j 2) sv (fa j 2) (fa j 3) (fa j 8)), ((fa j 2), tmC tv), ((fa j 3), boC (fa j 4) (fa j 6) bv), ((fa j 4), mkC (fa j 5)), ((fa j 5), .inl (cJ, 4, .inr (.inl f))), ((fa j 6), mkC (fa j 7)), ((fa j 7), .inl (cJ, 4, .inr (.inl g))), ((fa j 8), cuC cv)]) (pl := va_pl L (pf cJ kd pi bd af bo)) (R := (FA_267 ++ FB_268)))
                          clear hp0 hPq hDq hPc hDc hP1 hD1
                          generalize H1 = H at hP hS hf_295 ⊢
                          have hP : va_P D vwCl (([(b0, cbC r0 fl nw), (fl, flC cO n fa), ((fa j 0), fwC (fa j 1) (fa j 9)), ((fa j 9), rcC (FX j 0) rv (FX j 3) (fa j 10)), ((fa j 10), mkC (fa j 11)), ((fa j 11), .inl (cJ, 4, .inr (.inl kf))), (r0, rdC ov (va_rf ol) r1 r2 r3 r4 r5), (r1, chC cf cl zn 0), (r2, chC cf cl zn 1), (r3, chC cf cl zn 2), (r4, chC cf cl zn 3), (r5, tlC cI tf), ((fa j 1), snC (FX j 0) (FX j 1) (FX j 2) sv (fa j 2) (fa j 3) (fa j 8)), ((fa j 2), tmC tv), ((fa j 3), boC (fa j 4) (fa j 6) bv), ((fa j 4), mkC (fa j 5)), ((fa j 5), .inl (cJ, 4, .inr (.inl f))), ((fa j 6), mkC (fa j 7)), ((fa j 7), .inl (cJ, 4, .inr (.inl g))), ((fa j 8), cuC cv)] ++ va_pl L (pf cJ kd pi bd af bo)) ++ (FA_267 ++ FB_268)) H := hP
                          have hD : va_D A (([(b0, cbC r0 fl nw), (fl, flC cO n fa), ((fa j 0), fwC (fa j 1) (fa j 9)), ((fa j 9), rcC (FX j 0) rv (FX j 3) (fa j 10)), ((fa j 10), mkC (fa j 11)), ((fa j 11), .inl (cJ, 4, .inr (.inl kf))), (r0, rdC ov (va_rf ol) r1 r2 r3 r4 r5), (r1, chC cf cl zn 0), (r2, chC cf cl zn 1), (r3, chC cf cl zn 2), (r4, chC cf cl zn 3), (r5, tlC cI tf), ((fa j 1), snC (FX j 0) (FX j 1) (FX j 2) sv (fa j 2) (fa j 3) (fa j 8)), ((fa j 2), tmC tv), ((fa j 3), boC (fa j 4) (fa j 6) bv), ((fa j 4), mkC (fa j 5)), ((fa j 5), .inl (cJ, 4, .inr (.inl f))), ((fa j 6), mkC (fa j 7)), ((fa j 7), .inl (cJ, 4, .inr (.inl g))), ((fa j 8), cuC cv)] ++ va_pl L (pf cJ kd pi bd af bo)) ++ (FA_267 ++ FB_268)) := hD
                          have hpo := pm_X (pl := va_pl L (pf cJ kd pi bd af bo)) (R := (FA_267 ++ FB_268)) (perm_idx (X := [(b0, cbC r0 fl nw), (fl, flC cO n fa), ((fa j 0), fwC (fa j 1) (fa j 9)), ((fa j 9), rcC (FX j 0) rv (FX j 3) (fa j 10)), ((fa j 10), mkC (fa j 11)), ((fa j 11), .inl (cJ, 4, .inr (.inl kf))), (r0, rdC ov (va_rf ol) r1 r2 r3 r4 r5), (r1, chC cf cl zn 0), (r2, chC cf cl zn 1), (r3, chC cf cl zn 2), (r4, chC cf cl zn 3), (r5, tlC cI tf), ((fa j 1), snC (FX j 0) (FX j 1) (FX j 2) sv (fa j 2) (fa j 3) (fa j 8)), ((fa j 2), tmC tv), ((fa j 3), boC (fa j 4) (fa j 6) bv), ((fa j 4), mkC (fa j 5)), ((fa j 5), .inl (cJ, 4, .inr (.inl f))), ((fa j 6), mkC (fa j 7)), ((fa j 7), .inl (cJ, 4, .inr (.inl g))), ((fa j 8), cuC cv)]) (Y := [(b0, cbC r0 fl nw), (fl, flC cO n fa), (r0, rdC ov (va_rf ol) r1 r2 r3 r4 r5), (r1, chC cf cl zn 0), (r2, chC cf cl zn 1), (r3, chC cf cl zn 2), (r4, chC cf cl zn 3), (r5, tlC cI tf), ((fa j 0), fwC (fa j 1) (fa j 9)), ((fa j 1), snC (FX j 0) (FX j 1) (FX j 2) sv (fa j 2) (fa j 3) (fa j 8)), ((fa j 2), tmC tv), ((fa j 3), boC (fa j 4) (fa j 6) bv), ((fa j 4), mkC (fa j 5)), ((fa j 5), .inl (cJ, 4, .inr (.inl f))), ((fa j 6), mkC (fa j 7)), ((fa j 7), .inl (cJ, 4, .inr (.inl g))), ((fa j 8), cuC cv), ((fa j 9), rcC (FX j 0) rv (FX j 3) (fa j 10)), ((fa j 10), mkC (fa j 11)), ((fa j 11), .inl (cJ, 4, .inr (.inl kf)))]) (N := 20) [0, 1, 6, 7, 8, 9, 10, 11, 2, 12, 13, 14, 15, 16, 17, 18, 19, 3, 4, 5] rfl rfl (by decide))
                          have hP := hP.perm hpo
                          have hD := hD.perm hpo
                          clear hpo
                          have hP : va_P D vwCl (([(b0, cbC r0 fl nw), (fl, flC cO n fa), (r0, rdC ov (va_rf ol) r1 r2 r3 r4 r5), (r1, chC cf cl zn 0), (r2, chC cf cl zn 1), (r3, chC cf cl zn 2), (r4, chC cf cl zn 3), (r5, tlC cI tf), ((fa j 0), fwC (fa j 1) (fa j 9)), ((fa j 1), snC (FX j 0) (FX j 1) (FX j 2) sv (fa j 2) (fa j 3) (fa j 8)), ((fa j 2), tmC tv), ((fa j 3), boC (fa j 4) (fa j 6) bv), ((fa j 4), mkC (fa j 5)), ((fa j 5), .inl (cJ, 4, .inr (.inl f))), ((fa j 6), mkC (fa j 7)), ((fa j 7), .inl (cJ, 4, .inr (.inl g))), ((fa j 8), cuC cv), ((fa j 9), rcC (FX j 0) rv (FX j 3) (fa j 10)), ((fa j 10), mkC (fa j 11)), ((fa j 11), .inl (cJ, 4, .inr (.inl kf)))] ++ va_pl L (pf cJ kd pi bd af bo)) ++ (FA_267 ++ FB_268)) H := hP
                          have hD : va_D A (([(b0, cbC r0 fl nw), (fl, flC cO n fa), (r0, rdC ov (va_rf ol) r1 r2 r3 r4 r5), (r1, chC cf cl zn 0), (r2, chC cf cl zn 1), (r3, chC cf cl zn 2), (r4, chC cf cl zn 3), (r5, tlC cI tf), ((fa j 0), fwC (fa j 1) (fa j 9)), ((fa j 1), snC (FX j 0) (FX j 1) (FX j 2) sv (fa j 2) (fa j 3) (fa j 8)), ((fa j 2), tmC tv), ((fa j 3), boC (fa j 4) (fa j 6) bv), ((fa j 4), mkC (fa j 5)), ((fa j 5), .inl (cJ, 4, .inr (.inl f))), ((fa j 6), mkC (fa j 7)), ((fa j 7), .inl (cJ, 4, .inr (.inl g))), ((fa j 8), cuC cv), ((fa j 9), rcC (FX j 0) rv (FX j 3) (fa j 10)), ((fa j 10), mkC (fa j 11)), ((fa j 11), .inl (cJ, 4, .inr (.inl kf)))] ++ va_pl L (pf cJ kd pi bd af bo)) ++ (FA_267 ++ FB_268)) := hD
                          have hR := hf_295.1
                          have hPB := hf_295.2.1
                          have hZ := hf_295.2.2.1
                          have hT := hf_295.2.2.2.1
                          have hLK := hf_295.2.2.2.2.2.2.1
                          have hTK : TK W0 A0 t0 nw d 8 True True xl pi ol (c0 + q_292) := TK_QQ hTK hf_295.2.2.2.2.2.2.2 (Or.inl rfl) hwd hc (by omega)
                          have hg0 := gr_trans hle0 hg0 hf_295.2.2.2.2.1
                          obtain ⟨c_296, hc_296⟩ : ∃ y, y = c0 + q_292 := ⟨_, rfl⟩
                          rw [show 0 + c0 + q_292 = 0 + c_296 by omega] at hg0
                          rw [← hc_296] at hTK
                          have hB_c_296 : c_296 ≤ 12000 := by have := (TK_b hTK).1; omega
                          refine W.grown hg0 ?_
                          clear hf_295
                          have hpo := pm_close (X := [(b0, cbC r0 fl nw), (fl, flC cO n fa), (r0, rdC ov (va_rf ol) r1 r2 r3 r4 r5), (r1, chC cf cl zn 0), (r2, chC cf cl zn 1), (r3, chC cf cl zn 2), (r4, chC cf cl zn 3), (r5, tlC cI tf)]) (c := [((fa j 0), fwC (fa j 1) (fa j 9)), ((fa j 1), snC (FX j 0) (FX j 1) (FX j 2) sv (fa j 2) (fa j 3) (fa j 8)), ((fa j 2), tmC tv), ((fa j 3), boC (fa j 4) (fa j 6) bv), ((fa j 4), mkC (fa j 5)), ((fa j 5), .inl (cJ, 4, .inr (.inl f))), ((fa j 6), mkC (fa j 7)), ((fa j 7), .inl (cJ, 4, .inr (.inl g))), ((fa j 8), cuC cv), ((fa j 9), rcC (FX j 0) rv (FX j 3) (fa j 10)), ((fa j 10), mkC (fa j 11)), ((fa j 11), .inl (cJ, 4, .inr (.inl kf)))]) (pl := va_pl L (pf cJ kd pi bd af bo)) (fls_up (sv := sv) (tv := tv) (bv := bv) (cv := cv) (rv := rv) (f := f) (g := g) (kf := kf) hfu_270) (perm_idx (X := [(b0, cbC r0 fl nw), (fl, flC cO n fa), (r0, rdC ov (va_rf ol) r1 r2 r3 r4 r5), (r1, chC cf cl zn 0), (r2, chC cf cl zn 1), (r3, chC cf cl zn 2), (r4, chC cf cl zn 3), (r5, tlC cI tf), ((fa j 0), fwC (fa j 1) (fa j 9)), ((fa j 1), snC (FX j 0) (FX j 1) (FX j 2) sv (fa j 2) (fa j 3) (fa j 8)), ((fa j 2), tmC tv), ((fa j 3), boC (fa j 4) (fa j 6) bv), ((fa j 4), mkC (fa j 5)), ((fa j 5), .inl (cJ, 4, .inr (.inl f))), ((fa j 6), mkC (fa j 7)), ((fa j 7), .inl (cJ, 4, .inr (.inl g))), ((fa j 8), cuC cv), ((fa j 9), rcC (FX j 0) rv (FX j 3) (fa j 10)), ((fa j 10), mkC (fa j 11)), ((fa j 11), .inl (cJ, 4, .inr (.inl kf)))]) (Y := [(b0, cbC r0 fl nw), (fl, flC cO n fa), (r0, rdC ov (va_rf ol) r1 r2 r3 r4 r5), (r1, chC cf cl zn 0), (r2, chC cf cl zn 1), (r3, chC cf cl zn 2), (r4, chC cf cl zn 3), (r5, tlC cI tf), ((fa j 0), fwC (fa j 1) (fa j 9)), ((fa j 1), snC (FX j 0) (FX j 1) (FX j 2) sv (fa j 2) (fa j 3) (fa j 8)), ((fa j 2), tmC tv), ((fa j 3), boC (fa j 4) (fa j 6) bv), ((fa j 4), mkC (fa j 5)), ((fa j 5), .inl (cJ, 4, .inr (.inl f))), ((fa j 6), mkC (fa j 7)), ((fa j 7), .inl (cJ, 4, .inr (.inl g))), ((fa j 8), cuC cv), ((fa j 9), rcC (FX j 0) rv (FX j 3) (fa j 10)), ((fa j 10), mkC (fa j 11)), ((fa j 11), .inl (cJ, 4, .inr (.inl kf)))]) (N := 20) [0, 1, 2, 3, 4, 5, 6, 7, 8, 9, 10, 11, 12, 13, 14, 15, 16, 17, 18, 19] rfl rfl (by decide))
                          have hP := hP.perm hpo
                          have hD := hD.perm hpo
                          clear hpo hfu_270
                          have hP : va_P D vwCl (([(b0, cbC r0 fl nw), (fl, flC cO n fa), (r0, rdC ov (va_rf ol) r1 r2 r3 r4 r5), (r1, chC cf cl zn 0), (r2, chC cf cl zn 1), (r3, chC cf cl zn 2), (r4, chC cf cl zn 3), (r5, tlC cI tf)] ++ va_pl L (pf cJ kd pi bd af bo)) ++ fls cJ fa FX (va_up FV j (fpk sv tv bv cv rv)) (va_up FJ j (fpj f g kf)) n) H := hP
                          have hD : va_D A (([(b0, cbC r0 fl nw), (fl, flC cO n fa), (r0, rdC ov (va_rf ol) r1 r2 r3 r4 r5), (r1, chC cf cl zn 0), (r2, chC cf cl zn 1), (r3, chC cf cl zn 2), (r4, chC cf cl zn 3), (r5, tlC cI tf)] ++ va_pl L (pf cJ kd pi bd af bo)) ++ fls cJ fa FX (va_up FV j (fpk sv tv bv cv rv)) (va_up FJ j (fpj f g kf)) n) := hD
                          generalize hfv : va_up FV j (fpk sv tv bv cv rv) = FV at hP hD
                          generalize hfj : va_up FJ j (fpj f g kf) = FJ at hP hD
                          have hE := bs_at hfv hE
                          have hE := bs_at hfj hE
                          clear hfv hfj
                          obtain ⟨x_297, ex_297⟩ : ∃ y : Int32, y = (nI j) + 1 := ⟨_, rfl⟩
                          refine lv_iinc (v := x_297) (lv' := [(7, .int x_297), (8, .ref (fa j 0)), (1, .int n1), (2, .int x_169), (3, .int x_170), (4, .int i4), (0, .ref b0), (5, .ref fl), (6, .int (nI n))]) hx hb dX10_run_173 hl (k := 8) rfl (by rw [ex_297]; rfl) (by decide) rfl (fun ls hl => ?_)
                          refine lv_goto (tgt := 143) hx hb dX10_run_176 (by decide) ?_
                          have hx9 : x_297 = nI (j + 1) := by rw [ex_297, nI_1]
                          rw [hx9] at hl
                          refine W.know2 (fun hka hkb => ?_)
                          have hg0 : gr s.heap _ (0 + c_296) := ⟨hka, hkb⟩
                          exact ih143 c_296 (j + 1) ov tf ol cf cl zn xl tag L kd pi bd af bo go gq gw ga FV FJ _ _ hP hD hS hR hPB hZ hG hJ hT hLK hTK hg0 (by omega) _ (lv_sub hl [2, 3, 4, 5, 6, 7, 8, 0] rfl) hE (by omega)
                    refine W.know2 (fun hka hkb => ?_)
                    have hg0 : gr s.heap _ (0 + c0) := ⟨hka, hkb⟩
                    have hg9 : gr s.heap _ (0 + c0) := hg0
                    exact loopS (n + 1) c0 0 ov tf ol cf cl zn xl tag L kd pi bd af bo go gq gw ga FV FJ _ _ hP hD hS hR hPB hZ hG hJ hT hLK hTK hg9 (Nat.zero_le _) _ (lv_sub hl [3, 4, 5, 6, 7, 2, 1, 0] rfl) hE (by omega)
                  · have hq0 := (TK_b hTK).2.2
                    have hj : j < n := nI_lt_of hjn hn c_263
                    rw [show n - j = (n - (j + 1)) + 1 by omega, xc_flT] at hE
                    refine lv_aload hx hb dX10_run_100 (lv_at hl 5 rfl) ?_
                    refine lv_iload hx hb dX10_run_102 (lv_at hl 7 rfl) ?_
                    refine va_aldq hx hb hK hP 1 3 rfl rfl (vp_in_nI hj (by omega)) dX10_run_104 ?_
                    rw [nI_clamp (show j < 2 ^ 31 by omega)]
                    refine W.eq (g2 := F0 m 105 ls [.ref (fa j 0)]) rfl ?_
                    obtain ⟨FA_298, FB_299, hfe_300, hfu_301⟩ := fls_at (cJ := cJ) (fa := fa) (FX := FX) (FV := FV) (FJ := FJ) hj
                    have hpo := pm_open (X := [(b0, cbC r0 fl nw), (fl, flC cO n fa), (r0, rdC ov (va_rf ol) r1 r2 r3 r4 r5), (r1, chC cf cl zn 0), (r2, chC cf cl zn 1), (r3, chC cf cl zn 2), (r4, chC cf cl zn 3), (r5, tlC cI tf)]) (c := fcs cJ fa FX FV FJ j) (pl := va_pl L (pf cJ kd pi bd af bo)) hfe_300
                    have hP := hP.perm hpo
                    have hD := hD.perm hpo
                    clear hpo
                    have hP : va_P D vwCl (([(b0, cbC r0 fl nw), (fl, flC cO n fa), (r0, rdC ov (va_rf ol) r1 r2 r3 r4 r5), (r1, chC cf cl zn 0), (r2, chC cf cl zn 1), (r3, chC cf cl zn 2), (r4, chC cf cl zn 3), (r5, tlC cI tf), ((fa j 0), fwC (fa j 1) (fa j 9)), ((fa j 1), snC (FX j 0) (FX j 1) (FX j 2) (FV j 0) (fa j 2) (fa j 3) (fa j 8)), ((fa j 2), tmC (FV j 1)), ((fa j 3), boC (fa j 4) (fa j 6) (FV j 2)), ((fa j 4), mkC (fa j 5)), ((fa j 5), .inl (cJ, 4, .inr (.inl (FJ j 0)))), ((fa j 6), mkC (fa j 7)), ((fa j 7), .inl (cJ, 4, .inr (.inl (FJ j 1)))), ((fa j 8), cuC (FV j 3)), ((fa j 9), rcC (FX j 0) (FV j 4) (FX j 3) (fa j 10)), ((fa j 10), mkC (fa j 11)), ((fa j 11), .inl (cJ, 4, .inr (.inl (FJ j 2))))] ++ va_pl L (pf cJ kd pi bd af bo)) ++ (FA_298 ++ FB_299)) H := hP
                    have hD : va_D A (([(b0, cbC r0 fl nw), (fl, flC cO n fa), (r0, rdC ov (va_rf ol) r1 r2 r3 r4 r5), (r1, chC cf cl zn 0), (r2, chC cf cl zn 1), (r3, chC cf cl zn 2), (r4, chC cf cl zn 3), (r5, tlC cI tf), ((fa j 0), fwC (fa j 1) (fa j 9)), ((fa j 1), snC (FX j 0) (FX j 1) (FX j 2) (FV j 0) (fa j 2) (fa j 3) (fa j 8)), ((fa j 2), tmC (FV j 1)), ((fa j 3), boC (fa j 4) (fa j 6) (FV j 2)), ((fa j 4), mkC (fa j 5)), ((fa j 5), .inl (cJ, 4, .inr (.inl (FJ j 0)))), ((fa j 6), mkC (fa j 7)), ((fa j 7), .inl (cJ, 4, .inr (.inl (FJ j 1)))), ((fa j 8), cuC (FV j 3)), ((fa j 9), rcC (FX j 0) (FV j 4) (FX j 3) (fa j 10)), ((fa j 10), mkC (fa j 11)), ((fa j 11), .inl (cJ, 4, .inr (.inl (FJ j 2))))] ++ va_pl L (pf cJ kd pi bd af bo)) ++ (FA_298 ++ FB_299)) := hD
                    generalize hv0 : FV j 0 = sv at hP hD hE
                    generalize hv1 : FV j 1 = tv at hP hD hE
                    generalize hv2 : FV j 2 = bv at hP hD hE
                    generalize hv3 : FV j 3 = cv at hP hD hE
                    generalize hv4 : FV j 4 = rv at hP hD hE
                    generalize hj0 : FJ j 0 = f at hP hD hE
                    generalize hj1 : FJ j 1 = g at hP hD hE
                    generalize hj2 : FJ j 2 = kf at hP hD hE
                    refine lv_astore (lv' := [(8, .ref (fa j 0)), (1, .int n1), (2, .int x_169), (3, .int x_170), (4, .int i4), (0, .ref b0), (5, .ref fl), (6, .int (nI n)), (7, .int (nI j))]) hx hb dX10_run_105 hl (by decide) rfl (fun ls hl => ?_)
                    refine lv_aload hx hb dX10_run_107 (lv_at hl 0 rfl) ?_
                    refine va_getN (D := D) (ci := 3) (v := .ref (fa j 1)) (C := RX3) (T := TX3) (N := 2) hx hb ha inlX3 hown hK hP 8 rfl rfl 0 (by decide) (va_Nw.use rfl (hN.f RX10 38 "CongestionBench$Flow" "sender" "LCongestionBench$Sender;" "CongestionBench" (by decide +kernel))) (fun _ h9 => h9) rfl dX10_run_109 ?_
                    refine lv_aload_n hx hb dX10_run_112 rfl (lv_at hl 5 rfl) ?_
                    refine va_get (D := D) (ci := 10) (v := .ref r0) (C := RX10) (T := TX10) (N := 3) hx hb ha inlX10 hown hK hP 0 rfl rfl 0 (by decide) (ha _ kf_X10_10) (fun _ h9 => h9) rfl dX10_run_113 ?_
                    refine lv_aload_n hx hb dX10_run_116 rfl (lv_at hl 5 rfl) ?_
                    refine va_get (D := D) (ci := 10) (v := .int nw) (C := RX10) (T := TX10) (N := 3) hx hb ha inlX10 hown hK hP 0 rfl rfl 2 (by decide) (ha _ kf_X10_60) (fun _ h9 => h9) rfl dX10_run_117 ?_
                    have hp0 := perm_idx (X := [(b0, cbC r0 fl nw), (fl, flC cO n fa), (r0, rdC ov (va_rf ol) r1 r2 r3 r4 r5), (r1, chC cf cl zn 0), (r2, chC cf cl zn 1), (r3, chC cf cl zn 2), (r4, chC cf cl zn 3), (r5, tlC cI tf), ((fa j 0), fwC (fa j 1) (fa j 9)), ((fa j 1), snC (FX j 0) (FX j 1) (FX j 2) sv (fa j 2) (fa j 3) (fa j 8)), ((fa j 2), tmC tv), ((fa j 3), boC (fa j 4) (fa j 6) bv), ((fa j 4), mkC (fa j 5)), ((fa j 5), .inl (cJ, 4, .inr (.inl f))), ((fa j 6), mkC (fa j 7)), ((fa j 7), .inl (cJ, 4, .inr (.inl g))), ((fa j 8), cuC cv), ((fa j 9), rcC (FX j 0) rv (FX j 3) (fa j 10)), ((fa j 10), mkC (fa j 11)), ((fa j 11), .inl (cJ, 4, .inr (.inl kf)))]) (Y := [(r0, rdC ov (va_rf ol) r1 r2 r3 r4 r5), (r1, chC cf cl zn 0), (r2, chC cf cl zn 1), (r3, chC cf cl zn 2), (r4, chC cf cl zn 3), (r5, tlC cI tf), ((fa j 1), snC (FX j 0) (FX j 1) (FX j 2) sv (fa j 2) (fa j 3) (fa j 8)), ((fa j 2), tmC tv), ((fa j 3), boC (fa j 4) (fa j 6) bv), ((fa j 4), mkC (fa j 5)), ((fa j 5), .inl (cJ, 4, .inr (.inl f))), ((fa j 6), mkC (fa j 7)), ((fa j 7), .inl (cJ, 4, .inr (.inl g))), ((fa j 8), cuC cv)] ++ [(b0, cbC r0 fl nw), (fl, flC cO n fa), ((fa j 0), fwC (fa j 1) (fa j 9)), ((fa j 9), rcC (FX j 0) rv (FX j 3) (fa j 10)), ((fa j 10), mkC (fa j 11)), ((fa j 11), .inl (cJ, 4, .inr (.inl kf)))]) (N := 20) [2, 3, 4, 5, 6, 7, 9, 10, 11, 12, 13, 14, 15, 16, 0, 1, 8, 17, 18, 19] rfl rfl (by decide)
                    have hPq := hP.perm (pm_P (cx := [(r0, rdC ov (va_rf ol) r1 r2 r3 r4 r5), (r1, chC cf cl zn 0), (r2, chC cf cl zn 1), (r3, chC cf cl zn 2), (r4, chC cf cl zn 3), (r5, tlC cI tf), ((fa j 1), snC (FX j 0) (FX j 1) (FX j 2) sv (fa j 2) (fa j 3) (fa j 8)), ((fa j 2), tmC tv), ((fa j 3), boC (fa j 4) (fa j 6) bv), ((fa j 4), mkC (fa j 5)), ((fa j 5), .inl (cJ, 4, .inr (.inl f))), ((fa j 6), mkC (fa j 7)), ((fa j 7), .inl (cJ, 4, .inr (.inl g))), ((fa j 8), cuC cv)]) (xr := [(b0, cbC r0 fl nw), (fl, flC cO n fa), ((fa j 0), fwC (fa j 1) (fa j 9)), ((fa j 9), rcC (FX j 0) rv (FX j 3) (fa j 10)), ((fa j 10), mkC (fa j 11)), ((fa j 11), .inl (cJ, 4, .inr (.inl kf)))]) (pl := va_pl L (pf cJ kd pi bd af bo)) (R := (FA_298 ++ FB_299)) hp0)
                    have hDq := hD.perm (pm_P (cx := [(r0, rdC ov (va_rf ol) r1 r2 r3 r4 r5), (r1, chC cf cl zn 0), (r2, chC cf cl zn 1), (r3, chC cf cl zn 2), (r4, chC cf cl zn 3), (r5, tlC cI tf), ((fa j 1), snC (FX j 0) (FX j 1) (FX j 2) sv (fa j 2) (fa j 3) (fa j 8)), ((fa j 2), tmC tv), ((fa j 3), boC (fa j 4) (fa j 6) bv), ((fa j 4), mkC (fa j 5)), ((fa j 5), .inl (cJ, 4, .inr (.inl f))), ((fa j 6), mkC (fa j 7)), ((fa j 7), .inl (cJ, 4, .inr (.inl g))), ((fa j 8), cuC cv)]) (xr := [(b0, cbC r0 fl nw), (fl, flC cO n fa), ((fa j 0), fwC (fa j 1) (fa j 9)), ((fa j 9), rcC (FX j 0) rv (FX j 3) (fa j 10)), ((fa j 10), mkC (fa j 11)), ((fa j 11), .inl (cJ, 4, .inr (.inl kf)))]) (pl := va_pl L (pf cJ kd pi bd af bo)) (R := (FA_298 ++ FB_299)) hp0)
                    have hPc := hPq.left
                    have hDc := hDq.left
                    have hFc := va_freeR hDq hS hA
                    refine W.know2 (fun hka hkb => ?_)
                    have hg0 : gr s.heap _ (0 + c0) := ⟨hka, hkb⟩
                    have hle0 := hS.1
                    refine va_callv (va_runV (As := [.ref r0, .int nw]) (rest := []) ⟨hx, hb, hml, hown, ha⟩ (s_lookAt l D cI cJ cZ cO _ r0 r1 r2 r3 r4 r5 ov ol cf cl zn xl tag L kd pi bd af bo go gq gw ga tf (fa j 1) (fa j 2) (fa j 3) (fa j 4) (fa j 5) (fa j 6) (fa j 7) (fa j 8) (FX j 0) (FX j 1) (FX j 2) sv tv bv cv f g nw hR hPB hZ hG hJ hT hLK hq0) (cwV 2 ha (gaV kl_X10_81 km_X8_lookAtTimer ks_X8_lookAtTimer kz_X8 kd_X8_lookAtTimer) rfl rfl rfl (by decide +kernel) ⟨Nat.le_of_ble_eq_true rfl, Nat.le_of_ble_eq_true rfl⟩) ⟨pw_blindh, va_recv hK hPc (ci := 8) (q0 := 6) rfl rfl, fun U hU hW => ⟨rfl, pw_starth hU hW hPc hK hDc hN⟩⟩ rfl rfl hl.1 rfl (lv_room (Nat.le_of_ble_eq_true rfl)) dX10_run_120 ⟨show 2 * (0 + c0) + 2 ≤ 48100 by omega, show 11 * (0 + c0) + 11 ≤ 264300 by omega⟩) hS (fun q _ h => hFc q h) hFc (fun u t H1 locs ht hvm hw hB hz1 hk1 hS => ?_)
                    obtain ⟨sv, tv, bv, cv, f, g, ov, tf, ol, cf, cl, zn, xl, tag, L, kd, pi, bd, af, bo, q_323, go, gq, ⟨hf_326, ⟨hG, hJ⟩, hX0, hX1, hX2, hX3, hX4, hX5, hX6, hX7, hX8, hX9⟩, hP1, hK1, hD1⟩ := hB
                    have hE := bd_at rfl hE
                    have hE := bd_at hX0 hE
                    have hE := bd_at hX1 hE
                    have hE := bd_at hX2 hE
                    have hE := bd_at hX3 hE
                    have hE := bd_at hX4 hE
                    have hE := bd_at hX5 hE
                    have hE := bd_at hX6 hE
                    have hE := bd_at hX7 hE
                    have hE := bd_at hX8 hE
                    have hE := bd_at hX9 hE
                    rw [ht] at hP1
                    rw [ht] at hf_326
                    obtain ⟨hP, hD⟩ := va_joinR (w1 := ([(r0, rdC ov (va_rf ol) r1 r2 r3 r4 r5), (r1, chC cf cl zn 0), (r2, chC cf cl zn 1), (r3, chC cf cl zn 2), (r4, chC cf cl zn 3), (r5, tlC cI tf), ((fa j 1), snC (FX j 0) (FX j 1) (FX j 2) sv (fa j 2) (fa j 3) (fa j 8)), ((fa j 2), tmC tv), ((fa j 3), boC (fa j 4) (fa j 6) bv), ((fa j 4), mkC (fa j 5)), ((fa j 5), .inl (cJ, 4, .inr (.inl f))), ((fa j 6), mkC (fa j 7)), ((fa j 7), .inl (cJ, 4, .inr (.inl g))), ((fa j 8), cuC cv)] ++ va_pl L (pf cJ kd pi bd af bo))) hPq hDq hk1 hFc hP1 hD1
                    have hP := hP.perm (pm_Pb (xr := [(b0, cbC r0 fl nw), (fl, flC cO n fa), ((fa j 0), fwC (fa j 1) (fa j 9)), ((fa j 9), rcC (FX j 0) rv (FX j 3) (fa j 10)), ((fa j 10), mkC (fa j 11)), ((fa j 11), .inl (cJ, 4, .inr (.inl kf)))]) (rx := [(r0, rdC ov (va_rf ol) r1 r2 r3 r4 r5), (r1, chC cf cl zn 0), (r2, chC cf cl zn 1), (r3, chC cf cl zn 2), (r4, chC cf cl zn 3), (r5, tlC cI tf), ((fa j 1), snC (FX j 0) (FX j 1) (FX j 2) sv (fa j 2) (fa j 3) (fa j 8)), ((fa j 2), tmC tv), ((fa j 3), boC (fa j 4) (fa j 6) bv), ((fa j 4), mkC (fa j 5)), ((fa j 5), .inl (cJ, 4, .inr (.inl f))), ((fa j 6), mkC (fa j 7)), ((fa j 7), .inl (cJ, 4, .inr (.inl g))), ((fa j 8), cuC cv)]) (pl := va_pl L (pf cJ kd pi bd af bo)) (R := (FA_298 ++ FB_299)))
                    have hD := hD.perm (pm_Pb (xr := [(b0, cbC r0 fl nw), (fl, flC cO n fa), ((fa j 0), fwC (fa j 1) (fa j 9)), ((fa j 9), rcC (FX j 0) rv (FX j 3) (fa j 10)), ((fa j 10), mkC (fa j 11)), ((fa j 11), .inl (cJ, 4, .inr (.inl kf)))]) (rx := [(r0, rdC ov (va_rf ol) r1 r2 r3 r4 r5), (r1, chC cf cl zn 0), (r2, chC cf cl zn 1), (r3, chC cf cl zn 2), (r4, chC cf cl zn 3), (r5, tlC cI tf), ((fa j 1), snC (FX j 0) (FX j 1) (FX j 2) sv (fa j 2) (fa j 3) (fa j 8)), ((fa j 2), tmC tv), ((fa j 3), boC (fa j 4) (fa j 6) bv), ((fa j 4), mkC (fa j 5)), ((fa j 5), .inl (cJ, 4, .inr (.inl f))), ((fa j 6), mkC (fa j 7)), ((fa j 7), .inl (cJ, 4, .inr (.inl g))), ((fa j 8), cuC cv)]) (pl := va_pl L (pf cJ kd pi bd af bo)) (R := (FA_298 ++ FB_299)))
                    clear hp0 hPq hDq hPc hDc hP1 hD1
                    generalize H1 = H at hP hS hf_326 ⊢
                    have hP : va_P D vwCl (([(b0, cbC r0 fl nw), (fl, flC cO n fa), ((fa j 0), fwC (fa j 1) (fa j 9)), ((fa j 9), rcC (FX j 0) rv (FX j 3) (fa j 10)), ((fa j 10), mkC (fa j 11)), ((fa j 11), .inl (cJ, 4, .inr (.inl kf))), (r0, rdC ov (va_rf ol) r1 r2 r3 r4 r5), (r1, chC cf cl zn 0), (r2, chC cf cl zn 1), (r3, chC cf cl zn 2), (r4, chC cf cl zn 3), (r5, tlC cI tf), ((fa j 1), snC (FX j 0) (FX j 1) (FX j 2) sv (fa j 2) (fa j 3) (fa j 8)), ((fa j 2), tmC tv), ((fa j 3), boC (fa j 4) (fa j 6) bv), ((fa j 4), mkC (fa j 5)), ((fa j 5), .inl (cJ, 4, .inr (.inl f))), ((fa j 6), mkC (fa j 7)), ((fa j 7), .inl (cJ, 4, .inr (.inl g))), ((fa j 8), cuC cv)] ++ va_pl L (pf cJ kd pi bd af bo)) ++ (FA_298 ++ FB_299)) H := hP
                    have hD : va_D A (([(b0, cbC r0 fl nw), (fl, flC cO n fa), ((fa j 0), fwC (fa j 1) (fa j 9)), ((fa j 9), rcC (FX j 0) rv (FX j 3) (fa j 10)), ((fa j 10), mkC (fa j 11)), ((fa j 11), .inl (cJ, 4, .inr (.inl kf))), (r0, rdC ov (va_rf ol) r1 r2 r3 r4 r5), (r1, chC cf cl zn 0), (r2, chC cf cl zn 1), (r3, chC cf cl zn 2), (r4, chC cf cl zn 3), (r5, tlC cI tf), ((fa j 1), snC (FX j 0) (FX j 1) (FX j 2) sv (fa j 2) (fa j 3) (fa j 8)), ((fa j 2), tmC tv), ((fa j 3), boC (fa j 4) (fa j 6) bv), ((fa j 4), mkC (fa j 5)), ((fa j 5), .inl (cJ, 4, .inr (.inl f))), ((fa j 6), mkC (fa j 7)), ((fa j 7), .inl (cJ, 4, .inr (.inl g))), ((fa j 8), cuC cv)] ++ va_pl L (pf cJ kd pi bd af bo)) ++ (FA_298 ++ FB_299)) := hD
                    have hpo := pm_X (pl := va_pl L (pf cJ kd pi bd af bo)) (R := (FA_298 ++ FB_299)) (perm_idx (X := [(b0, cbC r0 fl nw), (fl, flC cO n fa), ((fa j 0), fwC (fa j 1) (fa j 9)), ((fa j 9), rcC (FX j 0) rv (FX j 3) (fa j 10)), ((fa j 10), mkC (fa j 11)), ((fa j 11), .inl (cJ, 4, .inr (.inl kf))), (r0, rdC ov (va_rf ol) r1 r2 r3 r4 r5), (r1, chC cf cl zn 0), (r2, chC cf cl zn 1), (r3, chC cf cl zn 2), (r4, chC cf cl zn 3), (r5, tlC cI tf), ((fa j 1), snC (FX j 0) (FX j 1) (FX j 2) sv (fa j 2) (fa j 3) (fa j 8)), ((fa j 2), tmC tv), ((fa j 3), boC (fa j 4) (fa j 6) bv), ((fa j 4), mkC (fa j 5)), ((fa j 5), .inl (cJ, 4, .inr (.inl f))), ((fa j 6), mkC (fa j 7)), ((fa j 7), .inl (cJ, 4, .inr (.inl g))), ((fa j 8), cuC cv)]) (Y := [(b0, cbC r0 fl nw), (fl, flC cO n fa), (r0, rdC ov (va_rf ol) r1 r2 r3 r4 r5), (r1, chC cf cl zn 0), (r2, chC cf cl zn 1), (r3, chC cf cl zn 2), (r4, chC cf cl zn 3), (r5, tlC cI tf), ((fa j 0), fwC (fa j 1) (fa j 9)), ((fa j 1), snC (FX j 0) (FX j 1) (FX j 2) sv (fa j 2) (fa j 3) (fa j 8)), ((fa j 2), tmC tv), ((fa j 3), boC (fa j 4) (fa j 6) bv), ((fa j 4), mkC (fa j 5)), ((fa j 5), .inl (cJ, 4, .inr (.inl f))), ((fa j 6), mkC (fa j 7)), ((fa j 7), .inl (cJ, 4, .inr (.inl g))), ((fa j 8), cuC cv), ((fa j 9), rcC (FX j 0) rv (FX j 3) (fa j 10)), ((fa j 10), mkC (fa j 11)), ((fa j 11), .inl (cJ, 4, .inr (.inl kf)))]) (N := 20) [0, 1, 6, 7, 8, 9, 10, 11, 2, 12, 13, 14, 15, 16, 17, 18, 19, 3, 4, 5] rfl rfl (by decide))
                    have hP := hP.perm hpo
                    have hD := hD.perm hpo
                    clear hpo
                    have hP : va_P D vwCl (([(b0, cbC r0 fl nw), (fl, flC cO n fa), (r0, rdC ov (va_rf ol) r1 r2 r3 r4 r5), (r1, chC cf cl zn 0), (r2, chC cf cl zn 1), (r3, chC cf cl zn 2), (r4, chC cf cl zn 3), (r5, tlC cI tf), ((fa j 0), fwC (fa j 1) (fa j 9)), ((fa j 1), snC (FX j 0) (FX j 1) (FX j 2) sv (fa j 2) (fa j 3) (fa j 8)), ((fa j 2), tmC tv), ((fa j 3), boC (fa j 4) (fa j 6) bv), ((fa j 4), mkC (fa j 5)), ((fa j 5), .inl (cJ, 4, .inr (.inl f))), ((fa j 6), mkC (fa j 7)), ((fa j 7), .inl (cJ, 4, .inr (.inl g))), ((fa j 8), cuC cv), ((fa j 9), rcC (FX j 0) rv (FX j 3) (fa j 10)), ((fa j 10), mkC (fa j 11)), ((fa j 11), .inl (cJ, 4, .inr (.inl kf)))] ++ va_pl L (pf cJ kd pi bd af bo)) ++ (FA_298 ++ FB_299)) H := hP
                    have hD : va_D A (([(b0, cbC r0 fl nw), (fl, flC cO n fa), (r0, rdC ov (va_rf ol) r1 r2 r3 r4 r5), (r1, chC cf cl zn 0), (r2, chC cf cl zn 1), (r3, chC cf cl zn 2), (r4, chC cf cl zn 3), (r5, tlC cI tf), ((fa j 0), fwC (fa j 1) (fa j 9)), ((fa j 1), snC (FX j 0) (FX j 1) (FX j 2) sv (fa j 2) (fa j 3) (fa j 8)), ((fa j 2), tmC tv), ((fa j 3), boC (fa j 4) (fa j 6) bv), ((fa j 4), mkC (fa j 5)), ((fa j 5), .inl (cJ, 4, .inr (.inl f))), ((fa j 6), mkC (fa j 7)), ((fa j 7), .inl (cJ, 4, .inr (.inl g))), ((fa j 8), cuC cv), ((fa j 9), rcC (FX j 0) rv (FX j 3) (fa j 10)), ((fa j 10), mkC (fa j 11)), ((fa j 11), .inl (cJ, 4, .inr (.inl kf)))] ++ va_pl L (pf cJ kd pi bd af bo)) ++ (FA_298 ++ FB_299)) := hD
                    have hR := hf_326.1
                    have hPB := hf_326.2.1
                    have hZ := hf_326.2.2.1
                    have hT := hf_326.2.2.2.1
                    have hLK := hf_326.2.2.2.2.2.2.1
                    have hTK : TK W0 A0 t0 nw d 8 True True xl pi ol (c0 + q_323) := TK_QQ hTK hf_326.2.2.2.2.2.2.2 (Or.inl rfl) hwd hc (by omega)
                    have hg0 := gr_trans hle0 hg0 hf_326.2.2.2.2.1
                    obtain ⟨c_327, hc_327⟩ : ∃ y, y = c0 + q_323 := ⟨_, rfl⟩
                    rw [show 0 + c0 + q_323 = 0 + c_327 by omega] at hg0
                    rw [← hc_327] at hTK
                    have hB_c_327 : c_327 ≤ 12000 := by have := (TK_b hTK).1; omega
                    refine W.grown hg0 ?_
                    clear hf_326
                    have hpo := pm_close (X := [(b0, cbC r0 fl nw), (fl, flC cO n fa), (r0, rdC ov (va_rf ol) r1 r2 r3 r4 r5), (r1, chC cf cl zn 0), (r2, chC cf cl zn 1), (r3, chC cf cl zn 2), (r4, chC cf cl zn 3), (r5, tlC cI tf)]) (c := [((fa j 0), fwC (fa j 1) (fa j 9)), ((fa j 1), snC (FX j 0) (FX j 1) (FX j 2) sv (fa j 2) (fa j 3) (fa j 8)), ((fa j 2), tmC tv), ((fa j 3), boC (fa j 4) (fa j 6) bv), ((fa j 4), mkC (fa j 5)), ((fa j 5), .inl (cJ, 4, .inr (.inl f))), ((fa j 6), mkC (fa j 7)), ((fa j 7), .inl (cJ, 4, .inr (.inl g))), ((fa j 8), cuC cv), ((fa j 9), rcC (FX j 0) rv (FX j 3) (fa j 10)), ((fa j 10), mkC (fa j 11)), ((fa j 11), .inl (cJ, 4, .inr (.inl kf)))]) (pl := va_pl L (pf cJ kd pi bd af bo)) (fls_up (sv := sv) (tv := tv) (bv := bv) (cv := cv) (rv := rv) (f := f) (g := g) (kf := kf) hfu_301) (perm_idx (X := [(b0, cbC r0 fl nw), (fl, flC cO n fa), (r0, rdC ov (va_rf ol) r1 r2 r3 r4 r5), (r1, chC cf cl zn 0), (r2, chC cf cl zn 1), (r3, chC cf cl zn 2), (r4, chC cf cl zn 3), (r5, tlC cI tf), ((fa j 0), fwC (fa j 1) (fa j 9)), ((fa j 1), snC (FX j 0) (FX j 1) (FX j 2) sv (fa j 2) (fa j 3) (fa j 8)), ((fa j 2), tmC tv), ((fa j 3), boC (fa j 4) (fa j 6) bv), ((fa j 4), mkC (fa j 5)), ((fa j 5), .inl (cJ, 4, .inr (.inl f))), ((fa j 6), mkC (fa j 7)), ((fa j 7), .inl (cJ, 4, .inr (.inl g))), ((fa j 8), cuC cv), ((fa j 9), rcC (FX j 0) rv (FX j 3) (fa j 10)), ((fa j 10), mkC (fa j 11)), ((fa j 11), .inl (cJ, 4, .inr (.inl kf)))]) (Y := [(b0, cbC r0 fl nw), (fl, flC cO n fa), (r0, rdC ov (va_rf ol) r1 r2 r3 r4 r5), (r1, chC cf cl zn 0), (r2, chC cf cl zn 1), (r3, chC cf cl zn 2), (r4, chC cf cl zn 3), (r5, tlC cI tf), ((fa j 0), fwC (fa j 1) (fa j 9)), ((fa j 1), snC (FX j 0) (FX j 1) (FX j 2) sv (fa j 2) (fa j 3) (fa j 8)), ((fa j 2), tmC tv), ((fa j 3), boC (fa j 4) (fa j 6) bv), ((fa j 4), mkC (fa j 5)), ((fa j 5), .inl (cJ, 4, .inr (.inl f))), ((fa j 6), mkC (fa j 7)), ((fa j 7), .inl (cJ, 4, .inr (.inl g))), ((fa j 8), cuC cv), ((fa j 9), rcC (FX j 0) rv (FX j 3) (fa j 10)), ((fa j 10), mkC (fa j 11)), ((fa j 11), .inl (cJ, 4, .inr (.inl kf)))]) (N := 20) [0, 1, 2, 3, 4, 5, 6, 7, 8, 9, 10, 11, 12, 13, 14, 15, 16, 17, 18, 19] rfl rfl (by decide))
                    have hP := hP.perm hpo
                    have hD := hD.perm hpo
                    clear hpo hfu_301
                    have hP : va_P D vwCl (([(b0, cbC r0 fl nw), (fl, flC cO n fa), (r0, rdC ov (va_rf ol) r1 r2 r3 r4 r5), (r1, chC cf cl zn 0), (r2, chC cf cl zn 1), (r3, chC cf cl zn 2), (r4, chC cf cl zn 3), (r5, tlC cI tf)] ++ va_pl L (pf cJ kd pi bd af bo)) ++ fls cJ fa FX (va_up FV j (fpk sv tv bv cv rv)) (va_up FJ j (fpj f g kf)) n) H := hP
                    have hD : va_D A (([(b0, cbC r0 fl nw), (fl, flC cO n fa), (r0, rdC ov (va_rf ol) r1 r2 r3 r4 r5), (r1, chC cf cl zn 0), (r2, chC cf cl zn 1), (r3, chC cf cl zn 2), (r4, chC cf cl zn 3), (r5, tlC cI tf)] ++ va_pl L (pf cJ kd pi bd af bo)) ++ fls cJ fa FX (va_up FV j (fpk sv tv bv cv rv)) (va_up FJ j (fpj f g kf)) n) := hD
                    generalize hfv : va_up FV j (fpk sv tv bv cv rv) = FV at hP hD
                    generalize hfj : va_up FJ j (fpj f g kf) = FJ at hP hD
                    have hE := bs_at hfv hE
                    have hE := bs_at hfj hE
                    clear hfv hfj
                    obtain ⟨x_328, ex_328⟩ : ∃ y : Int32, y = (nI j) + 1 := ⟨_, rfl⟩
                    refine lv_iinc (v := x_328) (lv' := [(7, .int x_328), (8, .ref (fa j 0)), (1, .int n1), (2, .int x_169), (3, .int x_170), (4, .int i4), (0, .ref b0), (5, .ref fl), (6, .int (nI n))]) hx hb dX10_run_123 hl (k := 8) rfl (by rw [ex_328]; rfl) (by decide) rfl (fun ls hl => ?_)
                    refine lv_goto (tgt := 93) hx hb dX10_run_126 (by decide) ?_
                    have hx9 : x_328 = nI (j + 1) := by rw [ex_328, nI_1]
                    rw [hx9] at hl
                    refine W.know2 (fun hka hkb => ?_)
                    have hg0 : gr s.heap _ (0 + c_327) := ⟨hka, hkb⟩
                    exact ih93 c_327 (j + 1) ov tf ol cf cl zn xl tag L kd pi bd af bo go gq gw ga FV FJ _ _ hP hD hS hR hPB hZ hG hJ hT hLK hTK hg0 (by omega) _ (lv_sub hl [2, 3, 4, 5, 6, 7, 8, 0] rfl) hE (by omega)
              refine W.know2 (fun hka hkb => ?_)
              have hg0 : gr s.heap _ (0 + c_262) := ⟨hka, hkb⟩
              have hg9 : gr s.heap _ (0 + c_262) := hg0
              exact loopT (n + 1) c_262 0 ov tf ol cf cl zn xl tag L kd pi bd af bo go gq gw ga FV FJ _ _ hP hD hS hR hPB hZ hG hJ hT hLK hTK hg9 (Nat.zero_le _) _ (lv_sub hl [4, 5, 6, 7, 3, 2, 1, 0] rfl) hE (by omega)
      rw [hQP] at loopO
      refine W.know2 (fun hka hkb => ?_)
      have hg9 : gr s.heap _ (0 + 0) := ⟨hka, hkb⟩
      exact loopO ((n1.toInt - (0 : Int32).toInt).toNat + 1) 0 nw 0 ov tf ol cf cl zn xl tag L kd pi bd af bo go gq gw ga FV FJ _ _ hP hD hS hR hPB hZ hG hJ hT hLK ⟨hTI, ht0.symm, htot, hq0⟩ hg9 _ (lv_sub hl [3, 4, 2, 1, 0] rfl) hE (Nat.lt_succ_self _)
    · have hE := hE.trans (if_neg c_168)
      refine lv_iconst (v := (-1)) hx hb dX10_run_22 (by decide) ?_
      refine W.know2 (fun hk1 hk2 => ?_)
      have hg0 : gr s.heap _ 0 := ⟨hk1, hk2⟩
      refine W.widen (k := 48100) (n := 264300) (Nat.le_of_ble_eq_true rfl) (Nat.le_of_ble_eq_true rfl) ?_
      have hP9 : va_P D vwCl (([(b0, cbC r0 fl nw), (fl, flC cO n fa), (r0, rdC ov (va_rf ol) r1 r2 r3 r4 r5), (r1, chC cf cl zn 0), (r2, chC cf cl zn 1), (r3, chC cf cl zn 2), (r4, chC cf cl zn 3), (r5, tlC cI tf)] ++ va_pl L (pf cJ kd pi bd af bo)) ++ fls cJ fa FX FV FJ n) _ := hP
      have hD9 : va_D A (([(b0, cbC r0 fl nw), (fl, flC cO n fa), (r0, rdC ov (va_rf ol) r1 r2 r3 r4 r5), (r1, chC cf cl zn 0), (r2, chC cf cl zn 1), (r3, chC cf cl zn 2), (r4, chC cf cl zn 3), (r5, tlC cI tf)] ++ va_pl L (pf cJ kd pi bd af bo)) ++ fls cJ fa FX FV FJ n) := hD
      exact W.iret (v := (-1)) hx hb hr (fun t ht hW => ⟨⟨(-1), (), rfl, ⟨trivial, (by rw [← hRES, hE])⟩, ⟨nw, ov, tf, ol, cf, cl, zn, xl, tag, L, kd, pi, bd, af, bo, 0, go, gq, gw, ga, FV, FJ, ⟨⟨hR, hPB, hZ, hT, by rw [ht]; exact hg0, hLK, hq0, rfl, htot, hTI⟩, ⟨hG, hJ⟩, (by rw [← hRES, hE]), (by rw [← hRES, hE]), (by rw [← hRES, hE]), (by rw [← hRES, hE]), (by rw [← hRES, hE]), (by rw [← hRES, hE]), (by rw [← hRES, hE]), (by rw [← hRES, hE]), (by rw [← hRES, hE])⟩, by rw [ht]; exact hP9, va_K.moved hW.alike hK, hD9⟩⟩, hS.F ht⟩) hS.2.2 dX10_run_23
