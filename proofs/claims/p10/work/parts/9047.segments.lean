set_option maxRecDepth 100000 in
def xc_segs (n : Nat) (FX : Nat → Nat → Int32) (nw : Int32) : List S4 → (Nat → Int32) → (Nat → Int32) → FVt → FJt → (Option S4) → (List S3) → (List A6) → BS
  | [], ov, tf, FV, FJ, go, gq, ga => (ov, tf, FV, FJ, go, gq, [], ga)
  | c :: gw, ov, tf, FV, FJ, go, gq, ga => if c.1 ≤ nw then bd (ov 14) (fun v1 => bd (v1 + 1) (fun v2 => bd (upd ov 14 v2) (fun ov => bd c.2.1 (fun x1 => bd (isf x1 n) (fun r1 => if r1 = 0 then xc_segs n FX nw gw ov tf FV FJ go gq ga else bd c.2.1 (fun x2 => bd (xc_take ov ga (FX x2.toNatClampNeg 0) (FX x2.toNatClampNeg 3) (FV x2.toNatClampNeg 4) (FJ x2.toNatClampNeg 2) nw c) (fun t1 => bd t1.1 (fun rv => bd t1.2.1 (fun kf => bd t1.2.2 (fun ga => bd (va_up FV x2.toNatClampNeg (fpk (FV x2.toNatClampNeg 0) (FV x2.toNatClampNeg 1) (FV x2.toNatClampNeg 2) (FV x2.toNatClampNeg 3) rv)) (fun FV => bd (va_up FJ x2.toNatClampNeg (fpj (FJ x2.toNatClampNeg 0) (FJ x2.toNatClampNeg 1) kf)) (fun FJ => xc_segs n FX nw gw ov tf FV FJ go gq ga)))))))))))) else (ov, tf, FV, FJ, go, gq, c :: gw, ga)
theorem segs_stop {n : Nat} {FX : Nat → Nat → Int32} {nw : Int32} {gw : List S4} {ov tf : Nat → Int32} {FV : FVt} {FJ : FJt} {go : Option S4} {gq : List S3} {ga : List A6} (h : ∀ c, gw.head? = some c → nw < c.1) : xc_segs n FX nw gw ov tf FV FJ go gq ga = (ov, tf, FV, FJ, go, gq, gw, ga) := by
  cases gw with
  | nil => rfl
  | cons c t =>
    rw [xc_segs]
    exact if_neg (Int32.not_le.mpr (h c rfl))
theorem gg_hd1 {xl : Nat → List Nat} {pi : Nat → Nat → Int32} {bd : Nat → Nat} {bo : Nat → Nat → Int64} {ol : Option Nat} {o : Option S4} {q : List S3} {w : List S4} {a : List A6} {nw : Int32} (h : GG xl pi bd bo ol o q w a) (hd : ∀ z, (xl 1).head? = some z → nw < pi 0 z) : ∀ c, w.head? = some c → nw < c.1 := by
  intro c hc
  rw [← h.2.2.1] at hc
  cases hx : xl 1 with
  | nil => rw [hx] at hc; cases hc
  | cons z t =>
    rw [hx] at hc
    cases hc
    exact hd z (by rw [hx]; rfl)
theorem gg_hd2 {xl : Nat → List Nat} {pi : Nat → Nat → Int32} {bd : Nat → Nat} {bo : Nat → Nat → Int64} {ol : Option Nat} {o : Option S4} {q : List S3} {w : List S4} {a : List A6} {nw : Int32} (h : GG xl pi bd bo ol o q w a) (hd : ∀ z, (xl 2).head? = some z → nw < pi 0 z) : ∀ c, a.head? = some c → nw < c.1 := by
  intro c hc
  rw [← h.2.2.2] at hc
  cases hx : xl 2 with
  | nil => rw [hx] at hc; cases hc
  | cons z t =>
    rw [hx] at hc
    cases hc
    exact hd z (by rw [hx]; rfl)

def xc_bringSegments (n : Nat) (FX : Nat → Nat → Int32) (nw : Int32) (ov tf : Nat → Int32) (FV : FVt) (FJ : FJt) (go : Option S4) (gq : List S3) (gw : List S4) (ga : List A6) : BS := xc_segs n FX nw gw ov tf FV FJ go gq ga
set_option maxHeartbeats 4000000 in
set_option maxRecDepth 100000 in
theorem s_bringSegments (l : Launch) (D : va_G) (cI cJ cZ cO : ClassId) (Hh : Heap) (b0 fl : Nat) (nw : Int32) (n : Nat) (fa : Nat → Nat → Nat) (FX : Nat → Nat → Int32) (FV : Nat → Nat → Nat → Int32) (FJ : Nat → Nat → Nat → Int64) (hn : n ≤ 4) (r0 r1 r2 r3 r4 r5 : Nat) (ov : Nat → Int32) (ol : Option Nat) (cf cl : Nat → Option Nat) (zn : Nat → Int32) (xl : Nat → List Nat) (tag : Nat → Nat) (L : List Nat) (kd : Nat → Bool) (pi : Nat → Nat → Int32) (bd : Nat → Nat) (af : Nat → Option Nat) (bo : Nat → Nat → Int64) (go : Option S4) (gq : List S3) (gw : List S4) (ga : List A6) (tf : Nat → Int32) (W0 A0 : List Int32) (t0 : Nat) (d : Int32) (b : Nat) (pw pa : Prop) (hR : RI L kd af tag cf cl xl ol) (hPB : PB L kd pi bd) (hZ : ZN zn xl) (hG : GG xl pi bd bo ol go gq gw ga) (hJ : JB L kd bd) (hT : 0 ≤ ov 10) (hLK : LK ov) (hK0 : TK W0 A0 t0 nw d 0 pw pa xl pi ol b) (hd : nw + ov 3 = d) (hwd : nw < d) (hc : 120 + W0.length + A0.length ≤ 12000) : Met l yX10_bringSegments (wa yX10_bringSegments cX10_bringSegments 3 none) ({ frames := 5, cells := 24010, slots := 132110, locals := 117 }) (va_Pc [.ref b0] (pw_h D cI cJ cZ cO Hh (([(b0, cbC r0 fl nw), (fl, flC cO n fa), (r0, rdC ov (va_rf ol) r1 r2 r3 r4 r5), (r1, chC cf cl zn 0), (r2, chC cf cl zn 1), (r3, chC cf cl zn 2), (r4, chC cf cl zn 3), (r5, tlC cI tf)] ++ va_pl L (pf cJ kd pi bd af bo)) ++ fls cJ fa FX FV FJ n))) (va_Qv (fun (_ : Unit) => True) (fun (_ : Unit) (t : State) => ∃ (ov2 tf2 : Nat → Int32) (ol2 : Option Nat) (cf2 cl2 : Nat → Option Nat) (zn2 : Nat → Int32) (xl2 : Nat → List Nat) (tag2 : Nat → Nat) (L2 : List Nat) (kd2 : Nat → Bool) (pi2 : Nat → Nat → Int32) (bd2 : Nat → Nat) (af2 : Nat → Option Nat) (bo2 : Nat → Nat → Int64) (b2 : Nat) (go2 : Option S4) (gq2 : List S3) (gw2 : List S4) (ga2 : List A6) (FV2 : Nat → Nat → Nat → Int32) (FJ2 : Nat → Nat → Nat → Int64), ((RI L2 kd2 af2 tag2 cf2 cl2 xl2 ol2 ∧ PB L2 kd2 pi2 bd2 ∧ ZN zn2 xl2 ∧ 0 ≤ ov2 10 ∧ gr Hh t.heap b2 ∧ LK ov2 ∧ nw + ov2 3 = d ∧ TK W0 A0 t0 nw d 0 True pa xl2 pi2 ol2 (b + b2)) ∧ (GG xl2 pi2 bd2 bo2 ol2 go2 gq2 gw2 ga2 ∧ JB L2 kd2 bd2) ∧ ov2 = (xc_bringSegments n FX nw ov tf FV FJ go gq gw ga).1 ∧ tf2 = (xc_bringSegments n FX nw ov tf FV FJ go gq gw ga).2.1 ∧ FV2 = (xc_bringSegments n FX nw ov tf FV FJ go gq gw ga).2.2.1 ∧ FJ2 = (xc_bringSegments n FX nw ov tf FV FJ go gq gw ga).2.2.2.1 ∧ go2 = (xc_bringSegments n FX nw ov tf FV FJ go gq gw ga).2.2.2.2.1 ∧ gq2 = (xc_bringSegments n FX nw ov tf FV FJ go gq gw ga).2.2.2.2.2.1 ∧ gw2 = (xc_bringSegments n FX nw ov tf FV FJ go gq gw ga).2.2.2.2.2.2.1 ∧ ga2 = (xc_bringSegments n FX nw ov tf FV FJ go gq gw ga).2.2.2.2.2.2.2) ∧ pw_t D cI cJ cZ cO (va_A (([(b0, cbC r0 fl nw), (fl, flC cO n fa), (r0, rdC ov (va_rf ol) r1 r2 r3 r4 r5), (r1, chC cf cl zn 0), (r2, chC cf cl zn 1), (r3, chC cf cl zn 2), (r4, chC cf cl zn 3), (r5, tlC cI tf)] ++ va_pl L (pf cJ kd pi bd af bo)) ++ fls cJ fa FX FV FJ n) Hh.size) (([(b0, cbC r0 fl nw), (fl, flC cO n fa), (r0, rdC ov2 (va_rf ol2) r1 r2 r3 r4 r5), (r1, chC cf2 cl2 zn2 0), (r2, chC cf2 cl2 zn2 1), (r3, chC cf2 cl2 zn2 2), (r4, chC cf2 cl2 zn2 3), (r5, tlC cI tf2)] ++ va_pl L2 (pf cJ kd2 pi2 bd2 af2 bo2)) ++ fls cJ fa FX FV2 FJ2 n) t) (va_A (([(b0, cbC r0 fl nw), (fl, flC cO n fa), (r0, rdC ov (va_rf ol) r1 r2 r3 r4 r5), (r1, chC cf cl zn 0), (r2, chC cf cl zn 1), (r3, chC cf cl zn 2), (r4, chC cf cl zn 3), (r5, tlC cI tf)] ++ va_pl L (pf cJ kd pi bd af bo)) ++ fls cJ fa FX FV FJ n) Hh.size)) 24010 132110 (va_A (([(b0, cbC r0 fl nw), (fl, flC cO n fa), (r0, rdC ov (va_rf ol) r1 r2 r3 r4 r5), (r1, chC cf cl zn 0), (r2, chC cf cl zn 1), (r3, chC cf cl zn 2), (r4, chC cf cl zn 3), (r5, tlC cI tf)] ++ va_pl L (pf cJ kd pi bd af bo)) ++ fls cJ fa FX FV FJ n) Hh.size) := by
  refine Met.ofW (cc := cX10_bringSegments) (maxL := 3) (ret := none) (by decide) rfl ?_
  intro p e s m args below meth c s₁ B hml hv
  obtain ⟨rfl, hsz, hP, hK, hD0, hN⟩ := hv
  have hx := B.exec
  have hb := B.bytes
  have hr := B.returns
  have hts := atoms_spec (ws := (wa yX10_bringSegments cX10_bringSegments 3 none)) B.pre
  have ha : ∀ w ∈ wsL_law, w.before _ s = true := fun w h => hts w (List.mem_cons_of_mem _ h)
  have hown : s.vm.findClass RX10 = some m.cls := findClass_of_methodNamed B.named
  have hlocks := B.notSynchronized
  subst hsz
  have hD := hD0.self (sz := s.heap.size)
  generalize hAe : va_A (([(b0, cbC r0 fl nw), (fl, flC cO n fa), (r0, rdC ov (va_rf ol) r1 r2 r3 r4 r5), (r1, chC cf cl zn 0), (r2, chC cf cl zn 1), (r3, chC cf cl zn 2), (r4, chC cf cl zn 3), (r5, tlC cI tf)] ++ va_pl L (pf cJ kd pi bd af bo)) ++ fls cJ fa FX FV FJ n) s.heap.size = A at hD ⊢
  have hA : ∀ q : Nat, s.heap.size ≤ q → A q := fun q h => by rw [← hAe]; exact Or.inr h
  have hS : va_S A s.heap s.heap [] := va_S.rf
  have hP : va_P D vwCl (([(b0, cbC r0 fl nw), (fl, flC cO n fa), (r0, rdC ov (va_rf ol) r1 r2 r3 r4 r5), (r1, chC cf cl zn 0), (r2, chC cf cl zn 1), (r3, chC cf cl zn 2), (r4, chC cf cl zn 3), (r5, tlC cI tf)] ++ va_pl L (pf cJ kd pi bd af bo)) ++ fls cJ fa FX FV FJ n) s.heap := hP
  have hl := lv_entry ([.ref b0]) (n := 3) (Nat.le_of_ble_eq_true rfl)
  rw [lg_entry_eq]
  generalize (lg_sl ([.ref b0]) ++ List.replicate (3 - (lg_sl ([.ref b0])).length) Slot.unset).toArray = ls at hl ⊢
  have hl : lv_has ls 3 [(0, .ref b0)] := hl
  obtain ⟨QP, hQP⟩ : ∃ y : State → Prop, y = (MQ below (va_Qv (fun (_ : Unit) => True) (fun (_ : Unit) (t : State) => ∃ (ov2 tf2 : Nat → Int32) (ol2 : Option Nat) (cf2 cl2 : Nat → Option Nat) (zn2 : Nat → Int32) (xl2 : Nat → List Nat) (tag2 : Nat → Nat) (L2 : List Nat) (kd2 : Nat → Bool) (pi2 : Nat → Nat → Int32) (bd2 : Nat → Nat) (af2 : Nat → Option Nat) (bo2 : Nat → Nat → Int64) (b2 : Nat) (go2 : Option S4) (gq2 : List S3) (gw2 : List S4) (ga2 : List A6) (FV2 : Nat → Nat → Nat → Int32) (FJ2 : Nat → Nat → Nat → Int64), ((RI L2 kd2 af2 tag2 cf2 cl2 xl2 ol2 ∧ PB L2 kd2 pi2 bd2 ∧ ZN zn2 xl2 ∧ 0 ≤ ov2 10 ∧ gr s.heap t.heap b2 ∧ LK ov2 ∧ nw + ov2 3 = d ∧ TK W0 A0 t0 nw d 0 True pa xl2 pi2 ol2 (b + b2)) ∧ (GG xl2 pi2 bd2 bo2 ol2 go2 gq2 gw2 ga2 ∧ JB L2 kd2 bd2) ∧ ov2 = (xc_bringSegments n FX nw ov tf FV FJ go gq gw ga).1 ∧ tf2 = (xc_bringSegments n FX nw ov tf FV FJ go gq gw ga).2.1 ∧ FV2 = (xc_bringSegments n FX nw ov tf FV FJ go gq gw ga).2.2.1 ∧ FJ2 = (xc_bringSegments n FX nw ov tf FV FJ go gq gw ga).2.2.2.1 ∧ go2 = (xc_bringSegments n FX nw ov tf FV FJ go gq gw ga).2.2.2.2.1 ∧ gq2 = (xc_bringSegments n FX nw ov tf FV FJ go gq gw ga).2.2.2.2.2.1 ∧ gw2 = (xc_bringSegments n FX nw ov tf FV FJ go gq gw ga).2.2.2.2.2.2.1 ∧ ga2 = (xc_bringSegments n FX nw ov tf FV FJ go gq gw ga).2.2.2.2.2.2.2) ∧ pw_t D cI cJ cZ cO A (([(b0, cbC r0 fl nw), (fl, flC cO n fa), (r0, rdC ov2 (va_rf ol2) r1 r2 r3 r4 r5), (r1, chC cf2 cl2 zn2 0), (r2, chC cf2 cl2 zn2 1), (r3, chC cf2 cl2 zn2 2), (r4, chC cf2 cl2 zn2 3), (r5, tlC cI tf2)] ++ va_pl L2 (pf cJ kd2 pi2 bd2 af2 bo2)) ++ fls cJ fa FX FV2 FJ2 n) t) A) #[(.ref b0 : Value)] s 24010 132110 A) := ⟨_, rfl⟩
  obtain ⟨RES, hRES⟩ : ∃ y, y = (xc_bringSegments n FX nw ov tf FV FJ go gq gw ga) := ⟨_, rfl⟩
  -- from the entry
  have hE := hRES
  unfold xc_bringSegments at hE
  refine lv_aload_n hx hb dX10_bringSegments_0 rfl (lv_at hl 0 rfl) ?_
  refine va_get (D := D) (ci := 10) (v := .ref r0) (C := RX10) (T := TX10) (N := 3) hx hb ha inlX10 hown hK hP 0 rfl rfl 0 (by decide) (ha _ kf_X10_10) (fun _ h9 => h9) rfl dX10_bringSegments_1 ?_
  refine va_getN (D := D) (ci := 7) (v := .ref r2) (C := RX7) (T := TX7) (N := 15) hx hb ha inlX7 hown hK hP 2 rfl rfl 6 (by decide) (va_Nw.use rfl (hN.f RX10 102 "CongestionBench$Road" "way" "LCongestionBench$Chain;" "CongestionBench" (by decide +kernel))) (fun _ h9 => h9) rfl dX10_bringSegments_4 ?_
  refine va_getN (D := D) (ci := 1) (v := .int (zn 1)) (C := RX1) (T := TX1) (N := 3) hx hb ha inlX1 hown hK hP 4 rfl rfl 2 (by decide) (va_Nw.use rfl (hN.f RX10 106 "CongestionBench$Chain" "size" "I" "CongestionBench" (by decide +kernel))) (fun _ h9 => h9) rfl dX10_bringSegments_7 ?_
  refine lv_istore_n (lv' := [(1, .int (zn 1)), (0, .ref b0)]) hx hb dX10_bringSegments_10 rfl hl (by decide) rfl (fun ls hl => ?_)
  obtain ⟨QP, hQP⟩ : ∃ y : State → Prop, y = (MQ below (va_Qv (fun (_ : Unit) => True) (fun (_ : Unit) (t : State) => ∃ (ov2 tf2 : Nat → Int32) (ol2 : Option Nat) (cf2 cl2 : Nat → Option Nat) (zn2 : Nat → Int32) (xl2 : Nat → List Nat) (tag2 : Nat → Nat) (L2 : List Nat) (kd2 : Nat → Bool) (pi2 : Nat → Nat → Int32) (bd2 : Nat → Nat) (af2 : Nat → Option Nat) (bo2 : Nat → Nat → Int64) (b2 : Nat) (go2 : Option S4) (gq2 : List S3) (gw2 : List S4) (ga2 : List A6) (FV2 : Nat → Nat → Nat → Int32) (FJ2 : Nat → Nat → Nat → Int64), ((RI L2 kd2 af2 tag2 cf2 cl2 xl2 ol2 ∧ PB L2 kd2 pi2 bd2 ∧ ZN zn2 xl2 ∧ 0 ≤ ov2 10 ∧ gr s.heap t.heap b2 ∧ LK ov2 ∧ nw + ov2 3 = d ∧ TK W0 A0 t0 nw d 0 True pa xl2 pi2 ol2 (b + b2)) ∧ (GG xl2 pi2 bd2 bo2 ol2 go2 gq2 gw2 ga2 ∧ JB L2 kd2 bd2) ∧ ov2 = (xc_bringSegments n FX nw ov tf FV FJ go gq gw ga).1 ∧ tf2 = (xc_bringSegments n FX nw ov tf FV FJ go gq gw ga).2.1 ∧ FV2 = (xc_bringSegments n FX nw ov tf FV FJ go gq gw ga).2.2.1 ∧ FJ2 = (xc_bringSegments n FX nw ov tf FV FJ go gq gw ga).2.2.2.1 ∧ go2 = (xc_bringSegments n FX nw ov tf FV FJ go gq gw ga).2.2.2.2.1 ∧ gq2 = (xc_bringSegments n FX nw ov tf FV FJ go gq gw ga).2.2.2.2.2.1 ∧ gw2 = (xc_bringSegments n FX nw ov tf FV FJ go gq gw ga).2.2.2.2.2.2.1 ∧ ga2 = (xc_bringSegments n FX nw ov tf FV FJ go gq gw ga).2.2.2.2.2.2.2) ∧ pw_t D cI cJ cZ cO A (([(b0, cbC r0 fl nw), (fl, flC cO n fa), (r0, rdC ov2 (va_rf ol2) r1 r2 r3 r4 r5), (r1, chC cf2 cl2 zn2 0), (r2, chC cf2 cl2 zn2 1), (r3, chC cf2 cl2 zn2 2), (r4, chC cf2 cl2 zn2 3), (r5, tlC cI tf2)] ++ va_pl L2 (pf cJ kd2 pi2 bd2 af2 bo2)) ++ fls cJ fa FX FV2 FJ2 n) t) A) #[(.ref b0 : Value)] s 24010 132110 A) := ⟨_, rfl⟩
  have loop : ∀ (k : Nat) (c0 : Nat) (lf : Int32) (ov tf : Nat → Int32) (ol : Option Nat) (cf cl : Nat → Option Nat) (zn : Nat → Int32) (xl : Nat → List Nat) (tag : Nat → Nat) (L : List Nat) (kd : Nat → Bool) (pi : Nat → Nat → Int32) (bd : Nat → Nat) (af : Nat → Option Nat) (bo : Nat → Nat → Int64) (go : Option S4) (gq : List S3) (gw : List S4) (ga : List A6) (FV : Nat → Nat → Nat → Int32) (FJ : Nat → Nat → Nat → Int64) (H : Heap) (locs : List Loc), va_P D vwCl (([(b0, cbC r0 fl nw), (fl, flC cO n fa), (r0, rdC ov (va_rf ol) r1 r2 r3 r4 r5), (r1, chC cf cl zn 0), (r2, chC cf cl zn 1), (r3, chC cf cl zn 2), (r4, chC cf cl zn 3), (r5, tlC cI tf)] ++ va_pl L (pf cJ kd pi bd af bo)) ++ fls cJ fa FX FV FJ n) H → va_D A (([(b0, cbC r0 fl nw), (fl, flC cO n fa), (r0, rdC ov (va_rf ol) r1 r2 r3 r4 r5), (r1, chC cf cl zn 0), (r2, chC cf cl zn 1), (r3, chC cf cl zn 2), (r4, chC cf cl zn 3), (r5, tlC cI tf)] ++ va_pl L (pf cJ kd pi bd af bo)) ++ fls cJ fa FX FV FJ n) → va_S A s.heap H locs → RI L kd af tag cf cl xl ol → PB L kd pi bd → ZN zn xl → GG xl pi bd bo ol go gq gw ga → JB L kd bd → 0 ≤ ov 10 → LK ov → TK W0 A0 t0 nw d 0 pw pa xl pi ol (b + c0) → gr s.heap H (0 + c0) → nw + ov 3 = d → lf = nI (xl 1).length → ∀ (ls : Array Slot), lv_has ls 3 [(0, .ref b0), (1, .int lf)] → RES = xc_segs n FX nw gw ov tf FV FJ go gq ga → (xl 1).length < k → W p l e ({ frames := 5, cells := 24010, slots := 132110, locals := 117 }) s m #[(.ref b0 : Value)] below meth c H locs (2 * (0 + c0)) (11 * (0 + c0)) QP (F0 m 11 ls []) := by
    intro k
    induction k with
    | zero => intros; exact absurd ‹_ < 0› (Nat.not_lt_zero _)
    | succ k ih =>
      intro c0 lf ov tf ol cf cl zn xl tag L kd pi bd af bo go gq gw ga FV FJ H locs hP hD hS hR hPB hZ hG hJ hT hLK hTK hg0 hd hlf ls hl hE hm
      have hB_c0 : c0 ≤ 12000 := by have := (TK_b hTK).1; omega
      refine lv_iload_n hx hb dX10_bringSegments_11 rfl (lv_at hl 1 rfl) ?_
      refine lv_if_le (tgt := 102) hx hb dX10_bringSegments_12 (by decide) (fun c_41 => ?_) (fun c_41 => ?_)
      · rw [hQP]
        have hdone : ∀ z, (xl 1).head? = some z → nw < pi 0 z := fun z hz => by have h8 := TK_len hTK; have h9 := nI_le0 (k := (xl 1).length) (by omega) (by rw [← hlf]; exact c_41); rw [List.length_eq_zero_iff.mp h9] at hz; cases hz
        have hE := hE.trans (segs_stop (gg_hd1 hG hdone))
        have hTK := TK_doneW hTK hdone
        refine W.know2 (fun hk1 hk2 => ?_)
        have hg0 : gr s.heap _ (0 + c0) := ⟨hk1, hk2⟩
        rw [show b + c0 = b + (0 + c0) by omega] at hTK
        refine W.widen (k := 24010) (n := 132110) (by omega) (by omega) ?_
        have hP9 : va_P D vwCl (([(b0, cbC r0 fl nw), (fl, flC cO n fa), (r0, rdC ov (va_rf ol) r1 r2 r3 r4 r5), (r1, chC cf cl zn 0), (r2, chC cf cl zn 1), (r3, chC cf cl zn 2), (r4, chC cf cl zn 3), (r5, tlC cI tf)] ++ va_pl L (pf cJ kd pi bd af bo)) ++ fls cJ fa FX FV FJ n) _ := hP
        have hD9 : va_D A (([(b0, cbC r0 fl nw), (fl, flC cO n fa), (r0, rdC ov (va_rf ol) r1 r2 r3 r4 r5), (r1, chC cf cl zn 0), (r2, chC cf cl zn 1), (r3, chC cf cl zn 2), (r4, chC cf cl zn 3), (r5, tlC cI tf)] ++ va_pl L (pf cJ kd pi bd af bo)) ++ fls cJ fa FX FV FJ n) := hD
        exact W.vret hx hb hr (fun t ht hW => ⟨⟨(), rfl, trivial, ⟨ov, tf, ol, cf, cl, zn, xl, tag, L, kd, pi, bd, af, bo, (0 + c0), go, gq, gw, ga, FV, FJ, ⟨⟨hR, hPB, hZ, hT, by rw [ht]; exact hg0, hLK, hd, hTK⟩, ⟨hG, hJ⟩, (by rw [← hRES, hE]), (by rw [← hRES, hE]), (by rw [← hRES, hE]), (by rw [← hRES, hE]), (by rw [← hRES, hE]), (by rw [← hRES, hE]), (by rw [← hRES, hE]), (by rw [← hRES, hE])⟩, by rw [ht]; exact hP9, va_K.moved hW.alike hK, hD9⟩⟩, hS.F ht⟩) hS.2.2 dX10_bringSegments_102
      · refine lv_aload_n hx hb dX10_bringSegments_15 rfl (lv_at hl 0 rfl) ?_
        refine va_get (D := D) (ci := 10) (v := .ref r0) (C := RX10) (T := TX10) (N := 3) hx hb ha inlX10 hown hK hP 0 rfl rfl 0 (by decide) (ha _ kf_X10_10) (fun _ h9 => h9) rfl dX10_bringSegments_16 ?_
        refine va_getN (D := D) (ci := 7) (v := .ref r2) (C := RX7) (T := TX7) (N := 15) hx hb ha inlX7 hown hK hP 2 rfl rfl 6 (by decide) (va_Nw.use rfl (hN.f RX10 102 "CongestionBench$Road" "way" "LCongestionBench$Chain;" "CongestionBench" (by decide +kernel))) (fun _ h9 => h9) rfl dX10_bringSegments_19 ?_
        refine lv_aload_n hx hb dX10_bringSegments_22 rfl (lv_at hl 0 rfl) ?_
        refine va_get (D := D) (ci := 10) (v := .int nw) (C := RX10) (T := TX10) (N := 3) hx hb ha inlX10 hown hK hP 0 rfl rfl 2 (by decide) (ha _ kf_X10_60) (fun _ h9 => h9) rfl dX10_bringSegments_23 ?_
        have hp0 := perm_idx (X := [(b0, cbC r0 fl nw), (fl, flC cO n fa), (r0, rdC ov (va_rf ol) r1 r2 r3 r4 r5), (r1, chC cf cl zn 0), (r2, chC cf cl zn 1), (r3, chC cf cl zn 2), (r4, chC cf cl zn 3), (r5, tlC cI tf)]) (Y := [(r2, chC cf cl zn 1)] ++ [(b0, cbC r0 fl nw), (fl, flC cO n fa), (r0, rdC ov (va_rf ol) r1 r2 r3 r4 r5), (r1, chC cf cl zn 0), (r3, chC cf cl zn 2), (r4, chC cf cl zn 3), (r5, tlC cI tf)]) (N := 8) [4, 0, 1, 2, 3, 5, 6, 7] rfl rfl (by decide)
        have hPq := hP.perm (pm_P (cx := [(r2, chC cf cl zn 1)]) (xr := [(b0, cbC r0 fl nw), (fl, flC cO n fa), (r0, rdC ov (va_rf ol) r1 r2 r3 r4 r5), (r1, chC cf cl zn 0), (r3, chC cf cl zn 2), (r4, chC cf cl zn 3), (r5, tlC cI tf)]) (pl := va_pl L (pf cJ kd pi bd af bo)) (R := fls cJ fa FX FV FJ n) hp0)
        have hDq := hD.perm (pm_P (cx := [(r2, chC cf cl zn 1)]) (xr := [(b0, cbC r0 fl nw), (fl, flC cO n fa), (r0, rdC ov (va_rf ol) r1 r2 r3 r4 r5), (r1, chC cf cl zn 0), (r3, chC cf cl zn 2), (r4, chC cf cl zn 3), (r5, tlC cI tf)]) (pl := va_pl L (pf cJ kd pi bd af bo)) (R := fls cJ fa FX FV FJ n) hp0)
        have hPc := hPq.left
        have hDc := hDq.left
        have hFc := va_freeR hDq hS hA
        refine va_callq (va_runV (As := [.int nw]) (rest := []) ⟨hx, hb, hml, hown, ha⟩ (s_takeDue2 l D cI cJ cZ cO _ r2 L kd pi bd af bo (cf 1) (cl 1) (zn 1) nw (RI_fi hR (by decide)) (RI_cl hR (by decide))) (cwV 1 ha (gaV kl_X10_111 km_X1_takeDue ks_X1_takeDue kz_X1 kd_X1_takeDue) rfl rfl rfl (by decide +kernel) ⟨Nat.le_of_ble_eq_true rfl, Nat.le_of_ble_eq_true rfl⟩) ⟨pw_blind, va_recv hK hPc (ci := 1) (q0 := 0) rfl rfl, fun U hU hW => ⟨rfl, pw_start hU hW hPc hK hDc hN⟩⟩ rfl rfl hl.1 rfl (lv_room (Nat.le_of_ble_eq_true rfl)) dX10_bringSegments_26 ⟨show 2 * (0 + c0) + 0 ≤ 24010 by omega, show 11 * (0 + c0) + 0 ≤ 132110 by omega⟩) hS (fun q _ h => hFc q h) hFc (fun r_42 u t H1 locs ht hvm hw hB hz1 hk1 hS => ?_)
        obtain ⟨hP1, hK1, hD1⟩ := hB
        rw [ht] at hP1
        obtain ⟨hP, hD⟩ := va_joinR (w1 := ([(r2, .inr (1, [va_rf (cond u (tk_fi af (cf 1)) (cf 1)), va_rf (cond u (tk_la af (cf 1) (cl 1)) (cl 1)), .int (cond u (tk_n (cf 1) (zn 1)) (zn 1))]))] ++ va_pl L (pf cJ kd pi bd (cond u (tk_af af (cf 1)) af) bo))) hPq hDq hk1 hFc hP1 hD1
        have hP := hP.perm (pm_Pb (xr := [(b0, cbC r0 fl nw), (fl, flC cO n fa), (r0, rdC ov (va_rf ol) r1 r2 r3 r4 r5), (r1, chC cf cl zn 0), (r3, chC cf cl zn 2), (r4, chC cf cl zn 3), (r5, tlC cI tf)]) (rx := [(r2, .inr (1, [va_rf (cond u (tk_fi af (cf 1)) (cf 1)), va_rf (cond u (tk_la af (cf 1) (cl 1)) (cl 1)), .int (cond u (tk_n (cf 1) (zn 1)) (zn 1))]))]) (pl := va_pl L (pf cJ kd pi bd (cond u (tk_af af (cf 1)) af) bo)) (R := fls cJ fa FX FV FJ n))
        have hD := hD.perm (pm_Pb (xr := [(b0, cbC r0 fl nw), (fl, flC cO n fa), (r0, rdC ov (va_rf ol) r1 r2 r3 r4 r5), (r1, chC cf cl zn 0), (r3, chC cf cl zn 2), (r4, chC cf cl zn 3), (r5, tlC cI tf)]) (rx := [(r2, .inr (1, [va_rf (cond u (tk_fi af (cf 1)) (cf 1)), va_rf (cond u (tk_la af (cf 1) (cl 1)) (cl 1)), .int (cond u (tk_n (cf 1) (zn 1)) (zn 1))]))]) (pl := va_pl L (pf cJ kd pi bd (cond u (tk_af af (cf 1)) af) bo)) (R := fls cJ fa FX FV FJ n))
        clear hp0 hPq hDq hPc hDc hP1 hD1
        generalize H1 = H at hP hS ⊢
        have hP : va_P D vwCl (([(b0, cbC r0 fl nw), (fl, flC cO n fa), (r0, rdC ov (va_rf ol) r1 r2 r3 r4 r5), (r1, chC cf cl zn 0), (r3, chC cf cl zn 2), (r4, chC cf cl zn 3), (r5, tlC cI tf), (r2, .inr (1, [va_rf (cond u (tk_fi af (cf 1)) (cf 1)), va_rf (cond u (tk_la af (cf 1) (cl 1)) (cl 1)), .int (cond u (tk_n (cf 1) (zn 1)) (zn 1))]))] ++ va_pl L (pf cJ kd pi bd (cond u (tk_af af (cf 1)) af) bo)) ++ fls cJ fa FX FV FJ n) H := hP
        have hD : va_D A (([(b0, cbC r0 fl nw), (fl, flC cO n fa), (r0, rdC ov (va_rf ol) r1 r2 r3 r4 r5), (r1, chC cf cl zn 0), (r3, chC cf cl zn 2), (r4, chC cf cl zn 3), (r5, tlC cI tf), (r2, .inr (1, [va_rf (cond u (tk_fi af (cf 1)) (cf 1)), va_rf (cond u (tk_la af (cf 1) (cl 1)) (cl 1)), .int (cond u (tk_n (cf 1) (zn 1)) (zn 1))]))] ++ va_pl L (pf cJ kd pi bd (cond u (tk_af af (cf 1)) af) bo)) ++ fls cJ fa FX FV FJ n) := hD
        have hpo := pm_X (pl := va_pl L (pf cJ kd pi bd (cond u (tk_af af (cf 1)) af) bo)) (R := fls cJ fa FX FV FJ n) (perm_idx (X := [(b0, cbC r0 fl nw), (fl, flC cO n fa), (r0, rdC ov (va_rf ol) r1 r2 r3 r4 r5), (r1, chC cf cl zn 0), (r3, chC cf cl zn 2), (r4, chC cf cl zn 3), (r5, tlC cI tf), (r2, .inr (1, [va_rf (cond u (tk_fi af (cf 1)) (cf 1)), va_rf (cond u (tk_la af (cf 1) (cl 1)) (cl 1)), .int (cond u (tk_n (cf 1) (zn 1)) (zn 1))]))]) (Y := [(b0, cbC r0 fl nw), (fl, flC cO n fa), (r0, rdC ov (va_rf ol) r1 r2 r3 r4 r5), (r1, chC cf cl zn 0), (r2, .inr (1, [va_rf (cond u (tk_fi af (cf 1)) (cf 1)), va_rf (cond u (tk_la af (cf 1) (cl 1)) (cl 1)), .int (cond u (tk_n (cf 1) (zn 1)) (zn 1))])), (r3, chC cf cl zn 2), (r4, chC cf cl zn 3), (r5, tlC cI tf)]) (N := 8) [0, 1, 2, 3, 7, 4, 5, 6] rfl rfl (by decide))
        have hP := hP.perm hpo
        have hD := hD.perm hpo
        clear hpo
        have hP : va_P D vwCl (([(b0, cbC r0 fl nw), (fl, flC cO n fa), (r0, rdC ov (va_rf ol) r1 r2 r3 r4 r5), (r1, chC cf cl zn 0), (r2, .inr (1, [va_rf (cond u (tk_fi af (cf 1)) (cf 1)), va_rf (cond u (tk_la af (cf 1) (cl 1)) (cl 1)), .int (cond u (tk_n (cf 1) (zn 1)) (zn 1))])), (r3, chC cf cl zn 2), (r4, chC cf cl zn 3), (r5, tlC cI tf)] ++ va_pl L (pf cJ kd pi bd (cond u (tk_af af (cf 1)) af) bo)) ++ fls cJ fa FX FV FJ n) H := hP
        have hD : va_D A (([(b0, cbC r0 fl nw), (fl, flC cO n fa), (r0, rdC ov (va_rf ol) r1 r2 r3 r4 r5), (r1, chC cf cl zn 0), (r2, .inr (1, [va_rf (cond u (tk_fi af (cf 1)) (cf 1)), va_rf (cond u (tk_la af (cf 1) (cl 1)) (cl 1)), .int (cond u (tk_n (cf 1) (zn 1)) (zn 1))])), (r3, chC cf cl zn 2), (r4, chC cf cl zn 3), (r5, tlC cI tf)] ++ va_pl L (pf cJ kd pi bd (cond u (tk_af af (cf 1)) af) bo)) ++ fls cJ fa FX FV FJ n) := hD
        refine W.widen (k := 2 * (0 + c0)) (n := 11 * (0 + c0)) (Nat.le_refl _) (Nat.le_refl _) ?_
        have hr_42 := hw
        cases u with
        | false =>
          have hP : va_P D vwCl (([(b0, cbC r0 fl nw), (fl, flC cO n fa), (r0, rdC ov (va_rf ol) r1 r2 r3 r4 r5), (r1, chC cf cl zn 0), (r2, chC cf cl zn 1), (r3, chC cf cl zn 2), (r4, chC cf cl zn 3), (r5, tlC cI tf)] ++ va_pl L (pf cJ kd pi bd af bo)) ++ fls cJ fa FX FV FJ n) _ := hP
          have hD : va_D A (([(b0, cbC r0 fl nw), (fl, flC cO n fa), (r0, rdC ov (va_rf ol) r1 r2 r3 r4 r5), (r1, chC cf cl zn 0), (r2, chC cf cl zn 1), (r3, chC cf cl zn 2), (r4, chC cf cl zn 3), (r5, tlC cI tf)] ++ va_pl L (pf cJ kd pi bd af bo)) ++ fls cJ fa FX FV FJ n) := hD
          have hdone : ∀ z, (xl 1).head? = some z → nw < pi 0 z := fun z hz => by have h5 := hr_42.2.1 rfl; rw [(hR.1 1 (by decide)).1.1, hz] at h5; exact h5
          obtain rfl : r_42 = none := hr_42.1
          refine lv_astore_nN (lv' := [(2, .null), (0, .ref b0), (1, .int lf)]) hx hb dX10_bringSegments_29 rfl hl (by decide) rfl (fun ls hl => ?_)
          refine lv_aload_nN hx hb dX10_bringSegments_30 rfl (lv_at hl 0 rfl) ?_
          refine lv_ifnonnullN hx hb dX10_bringSegments_31 ?_
          refine lv_goto (tgt := 102) hx hb dX10_bringSegments_34 (by decide) ?_
          rw [hQP]
          have hE := hE.trans (segs_stop (gg_hd1 hG hdone))
          have hTK := TK_doneW hTK hdone
          refine W.know2 (fun hk1 hk2 => ?_)
          have hg0 : gr s.heap _ (0 + c0) := ⟨hk1, hk2⟩
          rw [show b + c0 = b + (0 + c0) by omega] at hTK
          refine W.widen (k := 24010) (n := 132110) (by omega) (by omega) ?_
          have hP9 : va_P D vwCl (([(b0, cbC r0 fl nw), (fl, flC cO n fa), (r0, rdC ov (va_rf ol) r1 r2 r3 r4 r5), (r1, chC cf cl zn 0), (r2, chC cf cl zn 1), (r3, chC cf cl zn 2), (r4, chC cf cl zn 3), (r5, tlC cI tf)] ++ va_pl L (pf cJ kd pi bd af bo)) ++ fls cJ fa FX FV FJ n) _ := hP
          have hD9 : va_D A (([(b0, cbC r0 fl nw), (fl, flC cO n fa), (r0, rdC ov (va_rf ol) r1 r2 r3 r4 r5), (r1, chC cf cl zn 0), (r2, chC cf cl zn 1), (r3, chC cf cl zn 2), (r4, chC cf cl zn 3), (r5, tlC cI tf)] ++ va_pl L (pf cJ kd pi bd af bo)) ++ fls cJ fa FX FV FJ n) := hD
          exact W.vret hx hb hr (fun t ht hW => ⟨⟨(), rfl, trivial, ⟨ov, tf, ol, cf, cl, zn, xl, tag, L, kd, pi, bd, af, bo, (0 + c0), go, gq, gw, ga, FV, FJ, ⟨⟨hR, hPB, hZ, hT, by rw [ht]; exact hg0, hLK, hd, hTK⟩, ⟨hG, hJ⟩, (by rw [← hRES, hE]), (by rw [← hRES, hE]), (by rw [← hRES, hE]), (by rw [← hRES, hE]), (by rw [← hRES, hE]), (by rw [← hRES, hE]), (by rw [← hRES, hE]), (by rw [← hRES, hE])⟩, by rw [ht]; exact hP9, va_K.moved hW.alike hK, hD9⟩⟩, hS.F ht⟩) hS.2.2 dX10_bringSegments_102
        | true =>
          have hr1 : r_42 = cf 1 := hr_42.1
          have hZ2 := ZN_tk hZ hR (j := 1) (by decide)
          have hR2 := RI_tk hR (i := 1) (by decide)
          have hP : va_P D vwCl (([(b0, cbC r0 fl nw), (fl, flC cO n fa), (r0, rdC ov (va_rf ol) r1 r2 r3 r4 r5), (r1, chC cf cl zn 0), (r2, .inr (1, [va_rf (tk_fi af (cf 1)), va_rf (tk_la af (cf 1) (cl 1)), .int (tk_n (cf 1) (zn 1))])), (r3, chC cf cl zn 2), (r4, chC cf cl zn 3), (r5, tlC cI tf)] ++ va_pl L (pf cJ kd pi bd (tk_af af (cf 1)) bo)) ++ fls cJ fa FX FV FJ n) _ := hP
          have hD : va_D A (([(b0, cbC r0 fl nw), (fl, flC cO n fa), (r0, rdC ov (va_rf ol) r1 r2 r3 r4 r5), (r1, chC cf cl zn 0), (r2, .inr (1, [va_rf (tk_fi af (cf 1)), va_rf (tk_la af (cf 1) (cl 1)), .int (tk_n (cf 1) (zn 1))])), (r3, chC cf cl zn 2), (r4, chC cf cl zn 3), (r5, tlC cI tf)] ++ va_pl L (pf cJ kd pi bd (tk_af af (cf 1)) bo)) ++ fls cJ fa FX FV FJ n) := hD
          cases ho_44 : cf 1 with
          | none =>
            have hdone : ∀ z, (xl 1).head? = some z → nw < pi 0 z := fun z hz => by rw [RI_none hR (by decide) ho_44] at hz; cases hz
            obtain rfl : r_42 = none := hr1.trans ho_44
            rw [ho_44] at hP hD hR2 hZ2
            rw [show va_up xl 1 (xl 1).tail = xl from va_up_same (by rw [RI_none hR (by decide) ho_44]; rfl)] at hR2 hZ2
            have hP : va_P D vwCl (([(b0, cbC r0 fl nw), (fl, flC cO n fa), (r0, rdC ov (va_rf ol) r1 r2 r3 r4 r5), (r1, .inr (1, [va_rf (va_up cf 1 (tk_fi af none) 0), va_rf (va_up cl 1 (tk_la af none (cl 1)) 0), .int (va_up zn 1 (tk_n none (zn 1)) 0)])), (r2, .inr (1, [va_rf (va_up cf 1 (tk_fi af none) 1), va_rf (va_up cl 1 (tk_la af none (cl 1)) 1), .int (va_up zn 1 (tk_n none (zn 1)) 1)])), (r3, .inr (1, [va_rf (va_up cf 1 (tk_fi af none) 2), va_rf (va_up cl 1 (tk_la af none (cl 1)) 2), .int (va_up zn 1 (tk_n none (zn 1)) 2)])), (r4, .inr (1, [va_rf (va_up cf 1 (tk_fi af none) 3), va_rf (va_up cl 1 (tk_la af none (cl 1)) 3), .int (va_up zn 1 (tk_n none (zn 1)) 3)])), (r5, tlC cI tf)] ++ va_pl L (pf cJ kd pi bd (tk_af af none) bo)) ++ fls cJ fa FX FV FJ n) H := hP
            have hD : va_D A (([(b0, cbC r0 fl nw), (fl, flC cO n fa), (r0, rdC ov (va_rf ol) r1 r2 r3 r4 r5), (r1, .inr (1, [va_rf (va_up cf 1 (tk_fi af none) 0), va_rf (va_up cl 1 (tk_la af none (cl 1)) 0), .int (va_up zn 1 (tk_n none (zn 1)) 0)])), (r2, .inr (1, [va_rf (va_up cf 1 (tk_fi af none) 1), va_rf (va_up cl 1 (tk_la af none (cl 1)) 1), .int (va_up zn 1 (tk_n none (zn 1)) 1)])), (r3, .inr (1, [va_rf (va_up cf 1 (tk_fi af none) 2), va_rf (va_up cl 1 (tk_la af none (cl 1)) 2), .int (va_up zn 1 (tk_n none (zn 1)) 2)])), (r4, .inr (1, [va_rf (va_up cf 1 (tk_fi af none) 3), va_rf (va_up cl 1 (tk_la af none (cl 1)) 3), .int (va_up zn 1 (tk_n none (zn 1)) 3)])), (r5, tlC cI tf)] ++ va_pl L (pf cJ kd pi bd (tk_af af none) bo)) ++ fls cJ fa FX FV FJ n) := hD
            generalize va_up cf 1 (tk_fi af none) = cf at hP hD hR2
            generalize va_up cl 1 (tk_la af none (cl 1)) = cl at hP hD hR2
            generalize va_up zn 1 (tk_n none (zn 1)) = zn at hP hD hZ2
            generalize tk_af af none = af at hP hD hR2
            generalize tk_tag tag none = tag at hR2
            have hR := hR2
            have hZ := hZ2
            refine lv_astore_nN (lv' := [(2, .null), (0, .ref b0), (1, .int lf)]) hx hb dX10_bringSegments_29 rfl hl (by decide) rfl (fun ls hl => ?_)
            refine lv_aload_nN hx hb dX10_bringSegments_30 rfl (lv_at hl 0 rfl) ?_
            refine lv_ifnonnullN hx hb dX10_bringSegments_31 ?_
            refine lv_goto (tgt := 102) hx hb dX10_bringSegments_34 (by decide) ?_
            rw [hQP]
            have hE := hE.trans (segs_stop (gg_hd1 hG hdone))
            have hTK := TK_doneW hTK hdone
            refine W.know2 (fun hk1 hk2 => ?_)
            have hg0 : gr s.heap _ (0 + c0) := ⟨hk1, hk2⟩
            rw [show b + c0 = b + (0 + c0) by omega] at hTK
            refine W.widen (k := 24010) (n := 132110) (by omega) (by omega) ?_
            have hP9 : va_P D vwCl (([(b0, cbC r0 fl nw), (fl, flC cO n fa), (r0, rdC ov (va_rf ol) r1 r2 r3 r4 r5), (r1, chC cf cl zn 0), (r2, chC cf cl zn 1), (r3, chC cf cl zn 2), (r4, chC cf cl zn 3), (r5, tlC cI tf)] ++ va_pl L (pf cJ kd pi bd af bo)) ++ fls cJ fa FX FV FJ n) _ := hP
            have hD9 : va_D A (([(b0, cbC r0 fl nw), (fl, flC cO n fa), (r0, rdC ov (va_rf ol) r1 r2 r3 r4 r5), (r1, chC cf cl zn 0), (r2, chC cf cl zn 1), (r3, chC cf cl zn 2), (r4, chC cf cl zn 3), (r5, tlC cI tf)] ++ va_pl L (pf cJ kd pi bd af bo)) ++ fls cJ fa FX FV FJ n) := hD
            exact W.vret hx hb hr (fun t ht hW => ⟨⟨(), rfl, trivial, ⟨ov, tf, ol, cf, cl, zn, xl, tag, L, kd, pi, bd, af, bo, (0 + c0), go, gq, gw, ga, FV, FJ, ⟨⟨hR, hPB, hZ, hT, by rw [ht]; exact hg0, hLK, hd, hTK⟩, ⟨hG, hJ⟩, (by rw [← hRES, hE]), (by rw [← hRES, hE]), (by rw [← hRES, hE]), (by rw [← hRES, hE]), (by rw [← hRES, hE]), (by rw [← hRES, hE]), (by rw [← hRES, hE]), (by rw [← hRES, hE])⟩, by rw [ht]; exact hP9, va_K.moved hW.alike hK, hD9⟩⟩, hS.F ht⟩) hS.2.2 dX10_bringSegments_102
          | some z_43 =>
            obtain ⟨m_z_43, k_z_43, t_l1, e1⟩ := RI_hd hR (i := 1) (by decide) ho_44
            have t_z_43 : tk_tag tag (some z_43) z_43 = 6 := va_up_self tag z_43 6
            obtain rfl : r_42 = some z_43 := hr1.trans ho_44
            rw [ho_44] at hP hD hR2 hZ2
            have hP : va_P D vwCl (([(b0, cbC r0 fl nw), (fl, flC cO n fa), (r0, rdC ov (va_rf ol) r1 r2 r3 r4 r5), (r1, .inr (1, [va_rf (va_up cf 1 (tk_fi af (some z_43)) 0), va_rf (va_up cl 1 (tk_la af (some z_43) (cl 1)) 0), .int (va_up zn 1 (tk_n (some z_43) (zn 1)) 0)])), (r2, .inr (1, [va_rf (va_up cf 1 (tk_fi af (some z_43)) 1), va_rf (va_up cl 1 (tk_la af (some z_43) (cl 1)) 1), .int (va_up zn 1 (tk_n (some z_43) (zn 1)) 1)])), (r3, .inr (1, [va_rf (va_up cf 1 (tk_fi af (some z_43)) 2), va_rf (va_up cl 1 (tk_la af (some z_43) (cl 1)) 2), .int (va_up zn 1 (tk_n (some z_43) (zn 1)) 2)])), (r4, .inr (1, [va_rf (va_up cf 1 (tk_fi af (some z_43)) 3), va_rf (va_up cl 1 (tk_la af (some z_43) (cl 1)) 3), .int (va_up zn 1 (tk_n (some z_43) (zn 1)) 3)])), (r5, tlC cI tf)] ++ va_pl L (pf cJ kd pi bd (tk_af af (some z_43)) bo)) ++ fls cJ fa FX FV FJ n) H := hP
            have hD : va_D A (([(b0, cbC r0 fl nw), (fl, flC cO n fa), (r0, rdC ov (va_rf ol) r1 r2 r3 r4 r5), (r1, .inr (1, [va_rf (va_up cf 1 (tk_fi af (some z_43)) 0), va_rf (va_up cl 1 (tk_la af (some z_43) (cl 1)) 0), .int (va_up zn 1 (tk_n (some z_43) (zn 1)) 0)])), (r2, .inr (1, [va_rf (va_up cf 1 (tk_fi af (some z_43)) 1), va_rf (va_up cl 1 (tk_la af (some z_43) (cl 1)) 1), .int (va_up zn 1 (tk_n (some z_43) (zn 1)) 1)])), (r3, .inr (1, [va_rf (va_up cf 1 (tk_fi af (some z_43)) 2), va_rf (va_up cl 1 (tk_la af (some z_43) (cl 1)) 2), .int (va_up zn 1 (tk_n (some z_43) (zn 1)) 2)])), (r4, .inr (1, [va_rf (va_up cf 1 (tk_fi af (some z_43)) 3), va_rf (va_up cl 1 (tk_la af (some z_43) (cl 1)) 3), .int (va_up zn 1 (tk_n (some z_43) (zn 1)) 3)])), (r5, tlC cI tf)] ++ va_pl L (pf cJ kd pi bd (tk_af af (some z_43)) bo)) ++ fls cJ fa FX FV FJ n) := hD
            generalize va_up cf 1 (tk_fi af (some z_43)) = cf at hP hD hR2
            generalize va_up cl 1 (tk_la af (some z_43) (cl 1)) = cl at hP hD hR2
            generalize va_up zn 1 (tk_n (some z_43) (zn 1)) = zn at hP hD hZ2
            generalize tk_af af (some z_43) = af at hP hD hR2
            generalize tk_tag tag (some z_43) = tag at hR2 t_z_43
            have hle : (cs pi z_43).1 ≤ nw := by have h5 := hr_42.2.2 rfl; rw [ho_44] at h5; exact h5
            obtain ⟨hG, hgh⟩ := GG_tks1 hG e1
            rw [hgh] at hE
            generalize gw.tail = gw at hG hE
            rw [xc_segs] at hE
            have hE := hE.trans (if_pos hle)
            generalize hxa : va_up xl 1 (xl 1).tail = xl at hR2 hZ2 hG
            have hR := hR2
            have hZ := hZ2
            have hQ : QQ L kd tag xl pi ol L kd tag xl pi ol [] [] 0 0 := QQ_rf
            refine lv_astore_n (lv' := [(2, .ref z_43), (0, .ref b0), (1, .int lf)]) hx hb dX10_bringSegments_29 rfl hl (by decide) rfl (fun ls hl => ?_)
            refine lv_aload_n hx hb dX10_bringSegments_30 rfl (lv_at hl 0 rfl) ?_
            refine lv_ifnonnull (tgt := 37) hx hb dX10_bringSegments_31 (by decide) ?_
            refine lv_aload_n hx hb dX10_bringSegments_37 rfl (lv_at hl 1 rfl) ?_
            refine va_get (D := D) (ci := 10) (v := .ref r0) (C := RX10) (T := TX10) (N := 3) hx hb ha inlX10 hown hK hP 0 rfl rfl 0 (by decide) (ha _ kf_X10_10) (fun _ h9 => h9) rfl dX10_bringSegments_38 ?_
            refine lv_dup hx hb dX10_bringSegments_41 rfl ?_
            refine va_getN (D := D) (ci := 7) (v := .int (ov 14)) (C := RX7) (T := TX7) (N := 15) hx hb ha inlX7 hown hK hP 2 rfl rfl 14 (by decide) (va_Nw.use rfl (hN.f RX10 115 "CongestionBench$Road" "came" "I" "CongestionBench" (by decide +kernel))) (fun _ h9 => h9) rfl dX10_bringSegments_42 ?_
            refine lv_topi (fun x_45 ex_45 => ?_)
            have hE := bd_at ex_45 hE
            refine lv_iconst (v := 1) hx hb dX10_bringSegments_45 (by decide) ?_
            refine lv_iadd hx hb dX10_bringSegments_46 ?_
            refine lv_topi (fun x_46 ex_46 => ?_)
            have hE := bd_at ex_46 hE
            refine va_putN (D := D) (ci := 7) (v := .int x_46) (ty := .int) (C := RX7) (T := TX7) (N := 15) hx hb ha inlX7 tyX7 tyX7_ok nmX7 hown hK hP hD hS 2 rfl rfl 14 (by decide) (va_Nw.use rfl (hN.f RX10 115 "CongestionBench$Road" "came" "I" "CongestionBench" (by decide +kernel))) (fun _ h9 => h9) rfl (by decide +kernel) rfl rfl (Nat.le_of_ble_eq_true rfl) dX10_bringSegments_47 (fun H locs hP hD hS => ?_)
            have hP : va_P D vwCl (([(b0, cbC r0 fl nw), (fl, flC cO n fa), (r0, rdC (upd ov 14 x_46) (va_rf ol) r1 r2 r3 r4 r5), (r1, chC cf cl zn 0), (r2, chC cf cl zn 1), (r3, chC cf cl zn 2), (r4, chC cf cl zn 3), (r5, tlC cI tf)] ++ va_pl L (pf cJ kd pi bd af bo)) ++ fls cJ fa FX FV FJ n) H := hP
            have hD : va_D A (([(b0, cbC r0 fl nw), (fl, flC cO n fa), (r0, rdC (upd ov 14 x_46) (va_rf ol) r1 r2 r3 r4 r5), (r1, chC cf cl zn 0), (r2, chC cf cl zn 1), (r3, chC cf cl zn 2), (r4, chC cf cl zn 3), (r5, tlC cI tf)] ++ va_pl L (pf cJ kd pi bd af bo)) ++ fls cJ fa FX FV FJ n) := hD
            generalize hg_47 : upd ov 14 x_46 = ov at hP hD
            have hE := bs_at hg_47 hE
            have hT : 0 ≤ ov 10 := by have h9 := congrFun hg_47 10; rw [← h9]; exact hT
            have hLK := LK_of hLK ⟨(congrFun hg_47 1).symm, (congrFun hg_47 2).symm, (congrFun hg_47 3).symm⟩
            have hd : nw + ov 3 = d := by have h9 := congrFun hg_47 3; rw [← h9]; exact hd
            refine lv_aload_n hx hb dX10_bringSegments_50 rfl (lv_at hl 1 rfl) ?_
            refine lv_aload_n hx hb dX10_bringSegments_51 rfl (lv_at hl 0 rfl) ?_
            obtain ⟨k_48, hk_48⟩ := va_pl_get (X := [(b0, cbC r0 fl nw), (fl, flC cO n fa), (r0, rdC ov (va_rf ol) r1 r2 r3 r4 r5), (r1, chC cf cl zn 0), (r2, chC cf cl zn 1), (r3, chC cf cl zn 2), (r4, chC cf cl zn 3), (r5, tlC cI tf)]) (f := pf cJ kd pi bd af bo) m_z_43
            refine va_getN (D := D) (ci := 5) (v := .int (pi 1 z_43)) (C := RX5) (T := TX5) (N := 7) hx hb ha inlX5 hown hK hP k_48 ((fr_get hk_48).trans (congrArg (fun z => some (z_43, z)) (pf_p k_z_43))) rfl 1 (by decide) (va_Nw.use rfl (hN.f RX10 118 "CongestionBench$Parcel" "flow" "I" "CongestionBench" (by decide +kernel))) (fun _ h9 => h9) rfl dX10_bringSegments_52 ?_
            refine lv_topi (fun x_49 ex_49 => ?_)
            have hE := bd_at ex_49 hE
            have hp0 := perm_idx (X := [(b0, cbC r0 fl nw), (fl, flC cO n fa), (r0, rdC ov (va_rf ol) r1 r2 r3 r4 r5), (r1, chC cf cl zn 0), (r2, chC cf cl zn 1), (r3, chC cf cl zn 2), (r4, chC cf cl zn 3), (r5, tlC cI tf)]) (Y := [(b0, cbC r0 fl nw), (fl, flC cO n fa)] ++ [(r0, rdC ov (va_rf ol) r1 r2 r3 r4 r5), (r1, chC cf cl zn 0), (r2, chC cf cl zn 1), (r3, chC cf cl zn 2), (r4, chC cf cl zn 3), (r5, tlC cI tf)]) (N := 8) [0, 1, 2, 3, 4, 5, 6, 7] rfl rfl (by decide)
            have hPq := hP.perm (pm_Q (cx := [(b0, cbC r0 fl nw), (fl, flC cO n fa)]) (xr := [(r0, rdC ov (va_rf ol) r1 r2 r3 r4 r5), (r1, chC cf cl zn 0), (r2, chC cf cl zn 1), (r3, chC cf cl zn 2), (r4, chC cf cl zn 3), (r5, tlC cI tf)]) (pl := va_pl L (pf cJ kd pi bd af bo)) (R := fls cJ fa FX FV FJ n) hp0)
            have hDq := hD.perm (pm_Q (cx := [(b0, cbC r0 fl nw), (fl, flC cO n fa)]) (xr := [(r0, rdC ov (va_rf ol) r1 r2 r3 r4 r5), (r1, chC cf cl zn 0), (r2, chC cf cl zn 1), (r3, chC cf cl zn 2), (r4, chC cf cl zn 3), (r5, tlC cI tf)]) (pl := va_pl L (pf cJ kd pi bd af bo)) (R := fls cJ fa FX FV FJ n) hp0)
            have hPc := hPq.left
            have hDc := hDq.left
            have hFc := va_freeR hDq hS hA
            refine va_calli (va_runV (As := [.int x_49]) (rest := []) ⟨hx, hb, hml, hown, ha⟩ (c_isFlow l D cI cJ cZ cO _ b0 r0 fl nw n (fun i => some (fa i 0)) x_49) (cwV 1 ha (gaV kl_X10_33 km_X10_isFlow ks_X10_isFlow kz_X10 kd_X10_isFlow) rfl rfl rfl (by decide +kernel) ⟨Nat.le_of_ble_eq_true rfl, Nat.le_of_ble_eq_true rfl⟩) ⟨pw_blind, va_recv hK hPc (ci := 10) (q0 := 0) rfl rfl, fun U hU hW => ⟨rfl, pw_start hU hW hPc hK hDc hN⟩⟩ rfl rfl hl.1 rfl (lv_room (Nat.le_of_ble_eq_true rfl)) dX10_bringSegments_55 ⟨show 2 * (0 + c0) + 0 ≤ 24010 by omega, show 11 * (0 + c0) + 0 ≤ 132110 by omega⟩) hS (fun q _ h => hFc q h) hFc (fun r_50 u t H1 locs ht hvm hw hB hz1 hk1 hS => ?_)
            obtain ⟨hP1, hK1, hD1⟩ := hB
            rw [ht] at hP1
            obtain ⟨hP, hD⟩ := va_joinR (w1 := [(b0, cbC r0 fl nw), (fl, flC cO n fa)]) hPq hDq hk1 hFc hP1 hD1
            have hP := hP.perm (pm_Qb (xr := [(r0, rdC ov (va_rf ol) r1 r2 r3 r4 r5), (r1, chC cf cl zn 0), (r2, chC cf cl zn 1), (r3, chC cf cl zn 2), (r4, chC cf cl zn 3), (r5, tlC cI tf)]) (w1 := [(b0, cbC r0 fl nw), (fl, flC cO n fa)]) (pl := va_pl L (pf cJ kd pi bd af bo)) (R := fls cJ fa FX FV FJ n))
            have hD := hD.perm (pm_Qb (xr := [(r0, rdC ov (va_rf ol) r1 r2 r3 r4 r5), (r1, chC cf cl zn 0), (r2, chC cf cl zn 1), (r3, chC cf cl zn 2), (r4, chC cf cl zn 3), (r5, tlC cI tf)]) (w1 := [(b0, cbC r0 fl nw), (fl, flC cO n fa)]) (pl := va_pl L (pf cJ kd pi bd af bo)) (R := fls cJ fa FX FV FJ n))
            clear hp0 hPq hDq hPc hDc hP1 hD1
            generalize H1 = H at hP hS ⊢
            have hP : va_P D vwCl (([(r0, rdC ov (va_rf ol) r1 r2 r3 r4 r5), (r1, chC cf cl zn 0), (r2, chC cf cl zn 1), (r3, chC cf cl zn 2), (r4, chC cf cl zn 3), (r5, tlC cI tf), (b0, cbC r0 fl nw), (fl, flC cO n fa)] ++ va_pl L (pf cJ kd pi bd af bo)) ++ fls cJ fa FX FV FJ n) H := hP
            have hD : va_D A (([(r0, rdC ov (va_rf ol) r1 r2 r3 r4 r5), (r1, chC cf cl zn 0), (r2, chC cf cl zn 1), (r3, chC cf cl zn 2), (r4, chC cf cl zn 3), (r5, tlC cI tf), (b0, cbC r0 fl nw), (fl, flC cO n fa)] ++ va_pl L (pf cJ kd pi bd af bo)) ++ fls cJ fa FX FV FJ n) := hD
            have hpo := pm_X (pl := va_pl L (pf cJ kd pi bd af bo)) (R := fls cJ fa FX FV FJ n) (perm_idx (X := [(r0, rdC ov (va_rf ol) r1 r2 r3 r4 r5), (r1, chC cf cl zn 0), (r2, chC cf cl zn 1), (r3, chC cf cl zn 2), (r4, chC cf cl zn 3), (r5, tlC cI tf), (b0, cbC r0 fl nw), (fl, flC cO n fa)]) (Y := [(b0, cbC r0 fl nw), (fl, flC cO n fa), (r0, rdC ov (va_rf ol) r1 r2 r3 r4 r5), (r1, chC cf cl zn 0), (r2, chC cf cl zn 1), (r3, chC cf cl zn 2), (r4, chC cf cl zn 3), (r5, tlC cI tf)]) (N := 8) [6, 7, 0, 1, 2, 3, 4, 5] rfl rfl (by decide))
            have hP := hP.perm hpo
            have hD := hD.perm hpo
            clear hpo
            have hP : va_P D vwCl (([(b0, cbC r0 fl nw), (fl, flC cO n fa), (r0, rdC ov (va_rf ol) r1 r2 r3 r4 r5), (r1, chC cf cl zn 0), (r2, chC cf cl zn 1), (r3, chC cf cl zn 2), (r4, chC cf cl zn 3), (r5, tlC cI tf)] ++ va_pl L (pf cJ kd pi bd af bo)) ++ fls cJ fa FX FV FJ n) H := hP
            have hD : va_D A (([(b0, cbC r0 fl nw), (fl, flC cO n fa), (r0, rdC ov (va_rf ol) r1 r2 r3 r4 r5), (r1, chC cf cl zn 0), (r2, chC cf cl zn 1), (r3, chC cf cl zn 2), (r4, chC cf cl zn 3), (r5, tlC cI tf)] ++ va_pl L (pf cJ kd pi bd af bo)) ++ fls cJ fa FX FV FJ n) := hD
            refine W.widen (k := 2 * (0 + c0)) (n := 11 * (0 + c0)) (Nat.le_refl _) (Nat.le_refl _) ?_
            have hr_50 := hw
            have hE := bd_at hr_50 hE
            refine lv_if_eq (tgt := 85) hx hb dX10_bringSegments_58 (by decide) (fun c_51 => ?_) (fun c_51 => ?_)
            · have hE := hE.trans (if_pos c_51)
              refine lv_aload_n hx hb dX10_bringSegments_85 rfl (lv_at hl 1 rfl) ?_
              refine va_get (D := D) (ci := 10) (v := .ref r0) (C := RX10) (T := TX10) (N := 3) hx hb ha inlX10 hown hK hP 0 rfl rfl 0 (by decide) (ha _ kf_X10_10) (fun _ h9 => h9) rfl dX10_bringSegments_86 ?_
              refine va_getN (D := D) (ci := 7) (v := .ref r4) (C := RX7) (T := TX7) (N := 15) hx hb ha inlX7 hown hK hP 2 rfl rfl 8 (by decide) (va_Nw.use rfl (hN.f RX10 127 "CongestionBench$Road" "spare" "LCongestionBench$Chain;" "CongestionBench" (by decide +kernel))) (fun _ h9 => h9) rfl dX10_bringSegments_89 ?_
              refine lv_aload_n hx hb dX10_bringSegments_92 rfl (lv_at hl 0 rfl) ?_
              have hp0 := perm_idx (X := [(b0, cbC r0 fl nw), (fl, flC cO n fa), (r0, rdC ov (va_rf ol) r1 r2 r3 r4 r5), (r1, chC cf cl zn 0), (r2, chC cf cl zn 1), (r3, chC cf cl zn 2), (r4, chC cf cl zn 3), (r5, tlC cI tf)]) (Y := [(r4, chC cf cl zn 3)] ++ [(b0, cbC r0 fl nw), (fl, flC cO n fa), (r0, rdC ov (va_rf ol) r1 r2 r3 r4 r5), (r1, chC cf cl zn 0), (r2, chC cf cl zn 1), (r3, chC cf cl zn 2), (r5, tlC cI tf)]) (N := 8) [6, 0, 1, 2, 3, 4, 5, 7] rfl rfl (by decide)
              have hPq := hP.perm (pm_P (cx := [(r4, chC cf cl zn 3)]) (xr := [(b0, cbC r0 fl nw), (fl, flC cO n fa), (r0, rdC ov (va_rf ol) r1 r2 r3 r4 r5), (r1, chC cf cl zn 0), (r2, chC cf cl zn 1), (r3, chC cf cl zn 2), (r5, tlC cI tf)]) (pl := va_pl L (pf cJ kd pi bd af bo)) (R := fls cJ fa FX FV FJ n) hp0)
              have hDq := hD.perm (pm_P (cx := [(r4, chC cf cl zn 3)]) (xr := [(b0, cbC r0 fl nw), (fl, flC cO n fa), (r0, rdC ov (va_rf ol) r1 r2 r3 r4 r5), (r1, chC cf cl zn 0), (r2, chC cf cl zn 1), (r3, chC cf cl zn 2), (r5, tlC cI tf)]) (pl := va_pl L (pf cJ kd pi bd af bo)) (R := fls cJ fa FX FV FJ n) hp0)
              have hPc := hPq.left
              have hDc := hDq.left
              have hFc := va_freeR hDq hS hA
              refine va_callv (va_runV (As := [.ref z_43]) (rest := []) ⟨hx, hb, hml, hown, ha⟩ (s_append l D cI cJ cZ cO _ r4 z_43 L kd pi bd af bo (cf 3) (cl 3) (zn 3) m_z_43 k_z_43 (RI_la hR (by decide))) (cwV 1 ha (gaV kl_X10_130 km_X1_append ks_X1_append kz_X1 kd_X1_append) rfl rfl rfl (by decide +kernel) ⟨Nat.le_of_ble_eq_true rfl, Nat.le_of_ble_eq_true rfl⟩) ⟨pw_blind, va_recv hK hPc (ci := 1) (q0 := 0) rfl rfl, fun U hU hW => ⟨rfl, pw_start hU hW hPc hK hDc hN⟩⟩ rfl rfl hl.1 rfl (lv_room (Nat.le_of_ble_eq_true rfl)) dX10_bringSegments_93 ⟨show 2 * (0 + c0) + 0 ≤ 24010 by omega, show 11 * (0 + c0) + 0 ≤ 132110 by omega⟩) hS (fun q _ h => hFc q h) hFc (fun u t H1 locs ht hvm hw hB hz1 hk1 hS => ?_)
              obtain ⟨hP1, hK1, hD1⟩ := hB
              rw [ht] at hP1
              obtain ⟨hP, hD⟩ := va_joinR (w1 := ([(r4, .inr (1, [va_rf (ap_fi (cl 3) (cf 3) z_43), va_rf (some z_43), .int ((zn 3) + 1)]))] ++ va_pl L (pf cJ kd pi bd (ap_af af (cl 3) z_43) bo))) hPq hDq hk1 hFc hP1 hD1
              have hP := hP.perm (pm_Pb (xr := [(b0, cbC r0 fl nw), (fl, flC cO n fa), (r0, rdC ov (va_rf ol) r1 r2 r3 r4 r5), (r1, chC cf cl zn 0), (r2, chC cf cl zn 1), (r3, chC cf cl zn 2), (r5, tlC cI tf)]) (rx := [(r4, .inr (1, [va_rf (ap_fi (cl 3) (cf 3) z_43), va_rf (some z_43), .int ((zn 3) + 1)]))]) (pl := va_pl L (pf cJ kd pi bd (ap_af af (cl 3) z_43) bo)) (R := fls cJ fa FX FV FJ n))
              have hD := hD.perm (pm_Pb (xr := [(b0, cbC r0 fl nw), (fl, flC cO n fa), (r0, rdC ov (va_rf ol) r1 r2 r3 r4 r5), (r1, chC cf cl zn 0), (r2, chC cf cl zn 1), (r3, chC cf cl zn 2), (r5, tlC cI tf)]) (rx := [(r4, .inr (1, [va_rf (ap_fi (cl 3) (cf 3) z_43), va_rf (some z_43), .int ((zn 3) + 1)]))]) (pl := va_pl L (pf cJ kd pi bd (ap_af af (cl 3) z_43) bo)) (R := fls cJ fa FX FV FJ n))
              clear hp0 hPq hDq hPc hDc hP1 hD1
              generalize H1 = H at hP hS ⊢
              have hP : va_P D vwCl (([(b0, cbC r0 fl nw), (fl, flC cO n fa), (r0, rdC ov (va_rf ol) r1 r2 r3 r4 r5), (r1, chC cf cl zn 0), (r2, chC cf cl zn 1), (r3, chC cf cl zn 2), (r5, tlC cI tf), (r4, .inr (1, [va_rf (ap_fi (cl 3) (cf 3) z_43), va_rf (some z_43), .int ((zn 3) + 1)]))] ++ va_pl L (pf cJ kd pi bd (ap_af af (cl 3) z_43) bo)) ++ fls cJ fa FX FV FJ n) H := hP
              have hD : va_D A (([(b0, cbC r0 fl nw), (fl, flC cO n fa), (r0, rdC ov (va_rf ol) r1 r2 r3 r4 r5), (r1, chC cf cl zn 0), (r2, chC cf cl zn 1), (r3, chC cf cl zn 2), (r5, tlC cI tf), (r4, .inr (1, [va_rf (ap_fi (cl 3) (cf 3) z_43), va_rf (some z_43), .int ((zn 3) + 1)]))] ++ va_pl L (pf cJ kd pi bd (ap_af af (cl 3) z_43) bo)) ++ fls cJ fa FX FV FJ n) := hD
              have hpo := pm_X (pl := va_pl L (pf cJ kd pi bd (ap_af af (cl 3) z_43) bo)) (R := fls cJ fa FX FV FJ n) (perm_idx (X := [(b0, cbC r0 fl nw), (fl, flC cO n fa), (r0, rdC ov (va_rf ol) r1 r2 r3 r4 r5), (r1, chC cf cl zn 0), (r2, chC cf cl zn 1), (r3, chC cf cl zn 2), (r5, tlC cI tf), (r4, .inr (1, [va_rf (ap_fi (cl 3) (cf 3) z_43), va_rf (some z_43), .int ((zn 3) + 1)]))]) (Y := [(b0, cbC r0 fl nw), (fl, flC cO n fa), (r0, rdC ov (va_rf ol) r1 r2 r3 r4 r5), (r1, chC cf cl zn 0), (r2, chC cf cl zn 1), (r3, chC cf cl zn 2), (r4, .inr (1, [va_rf (ap_fi (cl 3) (cf 3) z_43), va_rf (some z_43), .int ((zn 3) + 1)])), (r5, tlC cI tf)]) (N := 8) [0, 1, 2, 3, 4, 5, 7, 6] rfl rfl (by decide))
              have hP := hP.perm hpo
              have hD := hD.perm hpo
              clear hpo
              have hP : va_P D vwCl (([(b0, cbC r0 fl nw), (fl, flC cO n fa), (r0, rdC ov (va_rf ol) r1 r2 r3 r4 r5), (r1, chC cf cl zn 0), (r2, chC cf cl zn 1), (r3, chC cf cl zn 2), (r4, .inr (1, [va_rf (ap_fi (cl 3) (cf 3) z_43), va_rf (some z_43), .int ((zn 3) + 1)])), (r5, tlC cI tf)] ++ va_pl L (pf cJ kd pi bd (ap_af af (cl 3) z_43) bo)) ++ fls cJ fa FX FV FJ n) H := hP
              have hD : va_D A (([(b0, cbC r0 fl nw), (fl, flC cO n fa), (r0, rdC ov (va_rf ol) r1 r2 r3 r4 r5), (r1, chC cf cl zn 0), (r2, chC cf cl zn 1), (r3, chC cf cl zn 2), (r4, .inr (1, [va_rf (ap_fi (cl 3) (cf 3) z_43), va_rf (some z_43), .int ((zn 3) + 1)])), (r5, tlC cI tf)] ++ va_pl L (pf cJ kd pi bd (ap_af af (cl 3) z_43) bo)) ++ fls cJ fa FX FV FJ n) := hD
              refine W.widen (k := 2 * (0 + c0)) (n := 11 * (0 + c0)) (Nat.le_refl _) (Nat.le_refl _) ?_
              obtain ⟨hTK, hln⟩ := TK_seg hTK e1 hxa hQ (Or.inl rfl) hwd hc (by decide)
              have hln : (va_up xl 3 (xl 3 ++ [z_43]) 1).length = t_l1.length := by rw [va_up_ne _ _ (by decide)]; exact hln
              have hZ := ZN_app (q := z_43) hZ (j := 3) (by decide)
              have hR := RI_append hR (i := 3) (by decide) m_z_43 k_z_43 t_z_43
              generalize (ap_af af (cl 3) z_43) = af at hP hD hR
              have hP : va_P D vwCl (([(b0, cbC r0 fl nw), (fl, flC cO n fa), (r0, rdC ov (va_rf ol) r1 r2 r3 r4 r5), (r1, .inr (1, [va_rf ((va_up cf 3 (ap_fi (cl 3) (cf 3) z_43)) 0), va_rf ((va_up cl 3 (some z_43)) 0), .int ((va_up zn 3 (zn 3 + 1)) 0)])), (r2, .inr (1, [va_rf ((va_up cf 3 (ap_fi (cl 3) (cf 3) z_43)) 1), va_rf ((va_up cl 3 (some z_43)) 1), .int ((va_up zn 3 (zn 3 + 1)) 1)])), (r3, .inr (1, [va_rf ((va_up cf 3 (ap_fi (cl 3) (cf 3) z_43)) 2), va_rf ((va_up cl 3 (some z_43)) 2), .int ((va_up zn 3 (zn 3 + 1)) 2)])), (r4, .inr (1, [va_rf ((va_up cf 3 (ap_fi (cl 3) (cf 3) z_43)) 3), va_rf ((va_up cl 3 (some z_43)) 3), .int ((va_up zn 3 (zn 3 + 1)) 3)])), (r5, tlC cI tf)] ++ va_pl L (pf cJ kd pi bd af bo)) ++ fls cJ fa FX FV FJ n) H := hP
              have hD : va_D A (([(b0, cbC r0 fl nw), (fl, flC cO n fa), (r0, rdC ov (va_rf ol) r1 r2 r3 r4 r5), (r1, .inr (1, [va_rf ((va_up cf 3 (ap_fi (cl 3) (cf 3) z_43)) 0), va_rf ((va_up cl 3 (some z_43)) 0), .int ((va_up zn 3 (zn 3 + 1)) 0)])), (r2, .inr (1, [va_rf ((va_up cf 3 (ap_fi (cl 3) (cf 3) z_43)) 1), va_rf ((va_up cl 3 (some z_43)) 1), .int ((va_up zn 3 (zn 3 + 1)) 1)])), (r3, .inr (1, [va_rf ((va_up cf 3 (ap_fi (cl 3) (cf 3) z_43)) 2), va_rf ((va_up cl 3 (some z_43)) 2), .int ((va_up zn 3 (zn 3 + 1)) 2)])), (r4, .inr (1, [va_rf ((va_up cf 3 (ap_fi (cl 3) (cf 3) z_43)) 3), va_rf ((va_up cl 3 (some z_43)) 3), .int ((va_up zn 3 (zn 3 + 1)) 3)])), (r5, tlC cI tf)] ++ va_pl L (pf cJ kd pi bd af bo)) ++ fls cJ fa FX FV FJ n) := hD
              generalize va_up cf 3 (ap_fi (cl 3) (cf 3) z_43) = cf at hP hD hR
              generalize va_up cl 3 (some z_43) = cl at hP hD hR
              generalize va_up zn 3 (zn 3 + 1) = zn at hP hD hZ
              have hG := GG_x3 (l := xl 3 ++ [z_43]) hG
              generalize va_up xl 3 (xl 3 ++ [z_43]) = xl at hR hZ hTK hln hG
              generalize va_up tag z_43 3 = tag at hR
              obtain ⟨x_53, ex_53⟩ : ∃ y : Int32, y = lf + (-1) := ⟨_, rfl⟩
              refine lv_iinc (v := x_53) (lv' := [(1, .int x_53), (2, .ref z_43), (0, .ref b0)]) hx hb dX10_bringSegments_96 hl (k := 2) rfl (by rw [ex_53]; rfl) (by decide) rfl (fun ls hl => ?_)
              refine lv_goto (tgt := 11) hx hb dX10_bringSegments_99 (by decide) ?_
              have hx9 : x_53 = nI (xl 1).length := by rw [ex_53, hlf, e1, List.length_cons, hln, ← Int32.sub_eq_add_neg, nI_pred]
              have hm9 : (xl 1).length < k := by rw [e1, List.length_cons] at hm; omega
              refine W.know2 (fun hka hkb => ?_)
              have hg0 : gr s.heap _ (0 + c0) := ⟨hka, hkb⟩
              exact ih c0 x_53 ov tf ol cf cl zn xl tag L kd pi bd af bo go gq gw ga FV FJ _ _ hP hD hS hR hPB hZ hG hJ hT hLK hTK hg0 hd hx9 _ (lv_sub hl [2, 0] rfl) hE hm9
            · have hE := hE.trans (if_neg c_51)
              obtain ⟨j, hj, hxj⟩ := isf_j hn (by rw [← hr_50]; exact c_51)
              refine lv_aload_n hx hb dX10_bringSegments_61 rfl (lv_at hl 1 rfl) ?_
              refine va_get (D := D) (ci := 10) (v := .ref fl) (C := RX10) (T := TX10) (N := 3) hx hb ha inlX10 hown hK hP 0 rfl rfl 1 (by decide) (ha _ kf_X10_18) (fun _ h9 => h9) rfl dX10_bringSegments_62 ?_
              refine lv_aload_n hx hb dX10_bringSegments_65 rfl (lv_at hl 0 rfl) ?_
              obtain ⟨k_54, hk_54⟩ := va_pl_get (X := [(b0, cbC r0 fl nw), (fl, flC cO n fa), (r0, rdC ov (va_rf ol) r1 r2 r3 r4 r5), (r1, chC cf cl zn 0), (r2, chC cf cl zn 1), (r3, chC cf cl zn 2), (r4, chC cf cl zn 3), (r5, tlC cI tf)]) (f := pf cJ kd pi bd af bo) m_z_43
              refine va_getN (D := D) (ci := 5) (v := .int (pi 1 z_43)) (C := RX5) (T := TX5) (N := 7) hx hb ha inlX5 hown hK hP k_54 ((fr_get hk_54).trans (congrArg (fun z => some (z_43, z)) (pf_p k_z_43))) rfl 1 (by decide) (va_Nw.use rfl (hN.f RX10 118 "CongestionBench$Parcel" "flow" "I" "CongestionBench" (by decide +kernel))) (fun _ h9 => h9) rfl dX10_bringSegments_66 ?_
              refine lv_topi (fun x_55 ex_55 => ?_)
              have hE := bd_at ex_55 hE
              have hxj2 : x_55 = nI j := ex_55.trans (ex_49.symm.trans hxj)
              subst hxj2
              rw [nI_clamp (show j < 2 ^ 31 by omega)] at hE
              refine va_aldq hx hb hK hP 1 3 rfl rfl (vp_in_nI hj (by omega)) dX10_bringSegments_69 ?_
              rw [nI_clamp (show j < 2 ^ 31 by omega)]
              refine W.eq (g2 := F0 m 70 ls [.ref (fa j 0)]) rfl ?_
              obtain ⟨FA_56, FB_57, hfe_58, hfu_59⟩ := fls_at (cJ := cJ) (fa := fa) (FX := FX) (FV := FV) (FJ := FJ) hj
              have hpo := pm_open (X := [(b0, cbC r0 fl nw), (fl, flC cO n fa), (r0, rdC ov (va_rf ol) r1 r2 r3 r4 r5), (r1, chC cf cl zn 0), (r2, chC cf cl zn 1), (r3, chC cf cl zn 2), (r4, chC cf cl zn 3), (r5, tlC cI tf)]) (c := fcs cJ fa FX FV FJ j) (pl := va_pl L (pf cJ kd pi bd af bo)) hfe_58
              have hP := hP.perm hpo
              have hD := hD.perm hpo
              clear hpo
              have hP : va_P D vwCl (([(b0, cbC r0 fl nw), (fl, flC cO n fa), (r0, rdC ov (va_rf ol) r1 r2 r3 r4 r5), (r1, chC cf cl zn 0), (r2, chC cf cl zn 1), (r3, chC cf cl zn 2), (r4, chC cf cl zn 3), (r5, tlC cI tf), ((fa j 0), fwC (fa j 1) (fa j 9)), ((fa j 1), snC (FX j 0) (FX j 1) (FX j 2) (FV j 0) (fa j 2) (fa j 3) (fa j 8)), ((fa j 2), tmC (FV j 1)), ((fa j 3), boC (fa j 4) (fa j 6) (FV j 2)), ((fa j 4), mkC (fa j 5)), ((fa j 5), .inl (cJ, 4, .inr (.inl (FJ j 0)))), ((fa j 6), mkC (fa j 7)), ((fa j 7), .inl (cJ, 4, .inr (.inl (FJ j 1)))), ((fa j 8), cuC (FV j 3)), ((fa j 9), rcC (FX j 0) (FV j 4) (FX j 3) (fa j 10)), ((fa j 10), mkC (fa j 11)), ((fa j 11), .inl (cJ, 4, .inr (.inl (FJ j 2))))] ++ va_pl L (pf cJ kd pi bd af bo)) ++ (FA_56 ++ FB_57)) H := hP
              have hD : va_D A (([(b0, cbC r0 fl nw), (fl, flC cO n fa), (r0, rdC ov (va_rf ol) r1 r2 r3 r4 r5), (r1, chC cf cl zn 0), (r2, chC cf cl zn 1), (r3, chC cf cl zn 2), (r4, chC cf cl zn 3), (r5, tlC cI tf), ((fa j 0), fwC (fa j 1) (fa j 9)), ((fa j 1), snC (FX j 0) (FX j 1) (FX j 2) (FV j 0) (fa j 2) (fa j 3) (fa j 8)), ((fa j 2), tmC (FV j 1)), ((fa j 3), boC (fa j 4) (fa j 6) (FV j 2)), ((fa j 4), mkC (fa j 5)), ((fa j 5), .inl (cJ, 4, .inr (.inl (FJ j 0)))), ((fa j 6), mkC (fa j 7)), ((fa j 7), .inl (cJ, 4, .inr (.inl (FJ j 1)))), ((fa j 8), cuC (FV j 3)), ((fa j 9), rcC (FX j 0) (FV j 4) (FX j 3) (fa j 10)), ((fa j 10), mkC (fa j 11)), ((fa j 11), .inl (cJ, 4, .inr (.inl (FJ j 2))))] ++ va_pl L (pf cJ kd pi bd af bo)) ++ (FA_56 ++ FB_57)) := hD
              generalize hv0 : FV j 0 = sv at hP hD hE
              generalize hv1 : FV j 1 = tv at hP hD hE
              generalize hv2 : FV j 2 = bv at hP hD hE
              generalize hv3 : FV j 3 = cv at hP hD hE
              generalize hv4 : FV j 4 = rv at hP hD hE
              generalize hj0 : FJ j 0 = f at hP hD hE
              generalize hj1 : FJ j 1 = g at hP hD hE
              generalize hj2 : FJ j 2 = kf at hP hD hE
              refine va_getN (D := D) (ci := 3) (v := .ref (fa j 9)) (C := RX3) (T := TX3) (N := 2) hx hb ha inlX3 hown hK hP 8 rfl rfl 1 (by decide) (va_Nw.use rfl (hN.f RX10 48 "CongestionBench$Flow" "receiver" "LCongestionBench$Receiver;" "CongestionBench" (by decide +kernel))) (fun _ h9 => h9) rfl dX10_bringSegments_70 ?_
              refine lv_aload_n hx hb dX10_bringSegments_73 rfl (lv_at hl 0 rfl) ?_
              refine lv_aload_n hx hb dX10_bringSegments_74 rfl (lv_at hl 1 rfl) ?_
              refine va_get (D := D) (ci := 10) (v := .ref r0) (C := RX10) (T := TX10) (N := 3) hx hb ha inlX10 hown hK hP 0 rfl rfl 0 (by decide) (ha _ kf_X10_10) (fun _ h9 => h9) rfl dX10_bringSegments_75 ?_
              refine lv_aload_n hx hb dX10_bringSegments_78 rfl (lv_at hl 1 rfl) ?_
              refine va_get (D := D) (ci := 10) (v := .int nw) (C := RX10) (T := TX10) (N := 3) hx hb ha inlX10 hown hK hP 0 rfl rfl 2 (by decide) (ha _ kf_X10_60) (fun _ h9 => h9) rfl dX10_bringSegments_79 ?_
              have hp0 := perm_idx (X := [(b0, cbC r0 fl nw), (fl, flC cO n fa), (r0, rdC ov (va_rf ol) r1 r2 r3 r4 r5), (r1, chC cf cl zn 0), (r2, chC cf cl zn 1), (r3, chC cf cl zn 2), (r4, chC cf cl zn 3), (r5, tlC cI tf), ((fa j 0), fwC (fa j 1) (fa j 9)), ((fa j 1), snC (FX j 0) (FX j 1) (FX j 2) sv (fa j 2) (fa j 3) (fa j 8)), ((fa j 2), tmC tv), ((fa j 3), boC (fa j 4) (fa j 6) bv), ((fa j 4), mkC (fa j 5)), ((fa j 5), .inl (cJ, 4, .inr (.inl f))), ((fa j 6), mkC (fa j 7)), ((fa j 7), .inl (cJ, 4, .inr (.inl g))), ((fa j 8), cuC cv), ((fa j 9), rcC (FX j 0) rv (FX j 3) (fa j 10)), ((fa j 10), mkC (fa j 11)), ((fa j 11), .inl (cJ, 4, .inr (.inl kf)))]) (Y := [(r0, rdC ov (va_rf ol) r1 r2 r3 r4 r5), (r1, chC cf cl zn 0), (r2, chC cf cl zn 1), (r3, chC cf cl zn 2), (r4, chC cf cl zn 3), ((fa j 9), rcC (FX j 0) rv (FX j 3) (fa j 10)), ((fa j 10), mkC (fa j 11)), ((fa j 11), .inl (cJ, 4, .inr (.inl kf)))] ++ [(b0, cbC r0 fl nw), (fl, flC cO n fa), (r5, tlC cI tf), ((fa j 0), fwC (fa j 1) (fa j 9)), ((fa j 1), snC (FX j 0) (FX j 1) (FX j 2) sv (fa j 2) (fa j 3) (fa j 8)), ((fa j 2), tmC tv), ((fa j 3), boC (fa j 4) (fa j 6) bv), ((fa j 4), mkC (fa j 5)), ((fa j 5), .inl (cJ, 4, .inr (.inl f))), ((fa j 6), mkC (fa j 7)), ((fa j 7), .inl (cJ, 4, .inr (.inl g))), ((fa j 8), cuC cv)]) (N := 20) [2, 3, 4, 5, 6, 17, 18, 19, 0, 1, 7, 8, 9, 10, 11, 12, 13, 14, 15, 16] rfl rfl (by decide)
              have hPq := hP.perm (pm_P (cx := [(r0, rdC ov (va_rf ol) r1 r2 r3 r4 r5), (r1, chC cf cl zn 0), (r2, chC cf cl zn 1), (r3, chC cf cl zn 2), (r4, chC cf cl zn 3), ((fa j 9), rcC (FX j 0) rv (FX j 3) (fa j 10)), ((fa j 10), mkC (fa j 11)), ((fa j 11), .inl (cJ, 4, .inr (.inl kf)))]) (xr := [(b0, cbC r0 fl nw), (fl, flC cO n fa), (r5, tlC cI tf), ((fa j 0), fwC (fa j 1) (fa j 9)), ((fa j 1), snC (FX j 0) (FX j 1) (FX j 2) sv (fa j 2) (fa j 3) (fa j 8)), ((fa j 2), tmC tv), ((fa j 3), boC (fa j 4) (fa j 6) bv), ((fa j 4), mkC (fa j 5)), ((fa j 5), .inl (cJ, 4, .inr (.inl f))), ((fa j 6), mkC (fa j 7)), ((fa j 7), .inl (cJ, 4, .inr (.inl g))), ((fa j 8), cuC cv)]) (pl := va_pl L (pf cJ kd pi bd af bo)) (R := (FA_56 ++ FB_57)) hp0)
              have hDq := hD.perm (pm_P (cx := [(r0, rdC ov (va_rf ol) r1 r2 r3 r4 r5), (r1, chC cf cl zn 0), (r2, chC cf cl zn 1), (r3, chC cf cl zn 2), (r4, chC cf cl zn 3), ((fa j 9), rcC (FX j 0) rv (FX j 3) (fa j 10)), ((fa j 10), mkC (fa j 11)), ((fa j 11), .inl (cJ, 4, .inr (.inl kf)))]) (xr := [(b0, cbC r0 fl nw), (fl, flC cO n fa), (r5, tlC cI tf), ((fa j 0), fwC (fa j 1) (fa j 9)), ((fa j 1), snC (FX j 0) (FX j 1) (FX j 2) sv (fa j 2) (fa j 3) (fa j 8)), ((fa j 2), tmC tv), ((fa j 3), boC (fa j 4) (fa j 6) bv), ((fa j 4), mkC (fa j 5)), ((fa j 5), .inl (cJ, 4, .inr (.inl f))), ((fa j 6), mkC (fa j 7)), ((fa j 7), .inl (cJ, 4, .inr (.inl g))), ((fa j 8), cuC cv)]) (pl := va_pl L (pf cJ kd pi bd af bo)) (R := (FA_56 ++ FB_57)) hp0)
              have hPc := hPq.left
              have hDc := hDq.left
              have hFc := va_freeR hDq hS hA
              refine W.know2 (fun hka hkb => ?_)
              have hg0 : gr s.heap _ (0 + c0) := ⟨hka, hkb⟩
              have hle0 := hS.1
              refine va_callv (va_runV (As := [.ref z_43, .ref r0, .int nw]) (rest := []) ⟨hx, hb, hml, hown, ha⟩ (s_take l D cI cJ cZ cO _ r0 r1 r2 r3 r4 r5 ov ol cf cl zn xl tag L kd pi bd af bo go gq gw ga (fa j 9) (fa j 10) (fa j 11) (FX j 0) (FX j 3) rv kf z_43 nw m_z_43 k_z_43 hR hPB hZ hG hJ (TK_s2 hTK hxa)) (cwV 3 ha (gaV kl_X10_123 km_X6_take ks_X6_take kz_X6 kd_X6_take) rfl rfl rfl (by decide +kernel) ⟨Nat.le_of_ble_eq_true rfl, Nat.le_of_ble_eq_true rfl⟩) ⟨pw_blindh, va_recv hK hPc (ci := 6) (q0 := 5) rfl rfl, fun U hU hW => ⟨rfl, pw_starth hU hW hPc hK hDc hN⟩⟩ rfl rfl hl.1 rfl (lv_room (Nat.le_of_ble_eq_true rfl)) dX10_bringSegments_82 ⟨show 2 * (0 + c0) + 2 ≤ 24010 by omega, show 11 * (0 + c0) + 11 ≤ 132110 by omega⟩) hS (fun q _ h => hFc q h) hFc (fun u t H1 locs ht hvm hw hB hz1 hk1 hS => ?_)
              obtain ⟨rv, cf, cl, zn, xl, tag, kf, L, kd, pi, bd, af, bo, q_74, ga, q_76, ⟨hf_77, ⟨hG, hJ⟩, hX0, hX1, hX2⟩, hP1, hK1, hD1⟩ := hB
              have hE := bd_at rfl hE
              have hE := bd_at hX0 hE
              have hE := bd_at hX1 hE
              have hE := bd_at hX2 hE
              rw [ht] at hP1
              rw [ht] at hf_77
              obtain ⟨hP, hD⟩ := va_joinR (w1 := ([(r0, rdC ov (va_rf ol) r1 r2 r3 r4 r5), (r1, chC cf cl zn 0), (r2, chC cf cl zn 1), (r3, chC cf cl zn 2), (r4, chC cf cl zn 3), ((fa j 9), rcC (FX j 0) rv (FX j 3) (fa j 10)), ((fa j 10), mkC (fa j 11)), ((fa j 11), .inl (cJ, 4, .inr (.inl kf)))] ++ va_pl L (pf cJ kd pi bd af bo))) hPq hDq hk1 hFc hP1 hD1
              have hP := hP.perm (pm_Pb (xr := [(b0, cbC r0 fl nw), (fl, flC cO n fa), (r5, tlC cI tf), ((fa j 0), fwC (fa j 1) (fa j 9)), ((fa j 1), snC (FX j 0) (FX j 1) (FX j 2) sv (fa j 2) (fa j 3) (fa j 8)), ((fa j 2), tmC tv), ((fa j 3), boC (fa j 4) (fa j 6) bv), ((fa j 4), mkC (fa j 5)), ((fa j 5), .inl (cJ, 4, .inr (.inl f))), ((fa j 6), mkC (fa j 7)), ((fa j 7), .inl (cJ, 4, .inr (.inl g))), ((fa j 8), cuC cv)]) (rx := [(r0, rdC ov (va_rf ol) r1 r2 r3 r4 r5), (r1, chC cf cl zn 0), (r2, chC cf cl zn 1), (r3, chC cf cl zn 2), (r4, chC cf cl zn 3), ((fa j 9), rcC (FX j 0) rv (FX j 3) (fa j 10)), ((fa j 10), mkC (fa j 11)), ((fa j 11), .inl (cJ, 4, .inr (.inl kf)))]) (pl := va_pl L (pf cJ kd pi bd af bo)) (R := (FA_56 ++ FB_57)))
              have hD := hD.perm (pm_Pb (xr := [(b0, cbC r0 fl nw), (fl, flC cO n fa), (r5, tlC cI tf), ((fa j 0), fwC (fa j 1) (fa j 9)), ((fa j 1), snC (FX j 0) (FX j 1) (FX j 2) sv (fa j 2) (fa j 3) (fa j 8)), ((fa j 2), tmC tv), ((fa j 3), boC (fa j 4) (fa j 6) bv), ((fa j 4), mkC (fa j 5)), ((fa j 5), .inl (cJ, 4, .inr (.inl f))), ((fa j 6), mkC (fa j 7)), ((fa j 7), .inl (cJ, 4, .inr (.inl g))), ((fa j 8), cuC cv)]) (rx := [(r0, rdC ov (va_rf ol) r1 r2 r3 r4 r5), (r1, chC cf cl zn 0), (r2, chC cf cl zn 1), (r3, chC cf cl zn 2), (r4, chC cf cl zn 3), ((fa j 9), rcC (FX j 0) rv (FX j 3) (fa j 10)), ((fa j 10), mkC (fa j 11)), ((fa j 11), .inl (cJ, 4, .inr (.inl kf)))]) (pl := va_pl L (pf cJ kd pi bd af bo)) (R := (FA_56 ++ FB_57)))
              clear hp0 hPq hDq hPc hDc hP1 hD1
              generalize H1 = H at hP hS hf_77 ⊢
              have hP : va_P D vwCl (([(b0, cbC r0 fl nw), (fl, flC cO n fa), (r5, tlC cI tf), ((fa j 0), fwC (fa j 1) (fa j 9)), ((fa j 1), snC (FX j 0) (FX j 1) (FX j 2) sv (fa j 2) (fa j 3) (fa j 8)), ((fa j 2), tmC tv), ((fa j 3), boC (fa j 4) (fa j 6) bv), ((fa j 4), mkC (fa j 5)), ((fa j 5), .inl (cJ, 4, .inr (.inl f))), ((fa j 6), mkC (fa j 7)), ((fa j 7), .inl (cJ, 4, .inr (.inl g))), ((fa j 8), cuC cv), (r0, rdC ov (va_rf ol) r1 r2 r3 r4 r5), (r1, chC cf cl zn 0), (r2, chC cf cl zn 1), (r3, chC cf cl zn 2), (r4, chC cf cl zn 3), ((fa j 9), rcC (FX j 0) rv (FX j 3) (fa j 10)), ((fa j 10), mkC (fa j 11)), ((fa j 11), .inl (cJ, 4, .inr (.inl kf)))] ++ va_pl L (pf cJ kd pi bd af bo)) ++ (FA_56 ++ FB_57)) H := hP
              have hD : va_D A (([(b0, cbC r0 fl nw), (fl, flC cO n fa), (r5, tlC cI tf), ((fa j 0), fwC (fa j 1) (fa j 9)), ((fa j 1), snC (FX j 0) (FX j 1) (FX j 2) sv (fa j 2) (fa j 3) (fa j 8)), ((fa j 2), tmC tv), ((fa j 3), boC (fa j 4) (fa j 6) bv), ((fa j 4), mkC (fa j 5)), ((fa j 5), .inl (cJ, 4, .inr (.inl f))), ((fa j 6), mkC (fa j 7)), ((fa j 7), .inl (cJ, 4, .inr (.inl g))), ((fa j 8), cuC cv), (r0, rdC ov (va_rf ol) r1 r2 r3 r4 r5), (r1, chC cf cl zn 0), (r2, chC cf cl zn 1), (r3, chC cf cl zn 2), (r4, chC cf cl zn 3), ((fa j 9), rcC (FX j 0) rv (FX j 3) (fa j 10)), ((fa j 10), mkC (fa j 11)), ((fa j 11), .inl (cJ, 4, .inr (.inl kf)))] ++ va_pl L (pf cJ kd pi bd af bo)) ++ (FA_56 ++ FB_57)) := hD
              have hpo := pm_X (pl := va_pl L (pf cJ kd pi bd af bo)) (R := (FA_56 ++ FB_57)) (perm_idx (X := [(b0, cbC r0 fl nw), (fl, flC cO n fa), (r5, tlC cI tf), ((fa j 0), fwC (fa j 1) (fa j 9)), ((fa j 1), snC (FX j 0) (FX j 1) (FX j 2) sv (fa j 2) (fa j 3) (fa j 8)), ((fa j 2), tmC tv), ((fa j 3), boC (fa j 4) (fa j 6) bv), ((fa j 4), mkC (fa j 5)), ((fa j 5), .inl (cJ, 4, .inr (.inl f))), ((fa j 6), mkC (fa j 7)), ((fa j 7), .inl (cJ, 4, .inr (.inl g))), ((fa j 8), cuC cv), (r0, rdC ov (va_rf ol) r1 r2 r3 r4 r5), (r1, chC cf cl zn 0), (r2, chC cf cl zn 1), (r3, chC cf cl zn 2), (r4, chC cf cl zn 3), ((fa j 9), rcC (FX j 0) rv (FX j 3) (fa j 10)), ((fa j 10), mkC (fa j 11)), ((fa j 11), .inl (cJ, 4, .inr (.inl kf)))]) (Y := [(b0, cbC r0 fl nw), (fl, flC cO n fa), (r0, rdC ov (va_rf ol) r1 r2 r3 r4 r5), (r1, chC cf cl zn 0), (r2, chC cf cl zn 1), (r3, chC cf cl zn 2), (r4, chC cf cl zn 3), (r5, tlC cI tf), ((fa j 0), fwC (fa j 1) (fa j 9)), ((fa j 1), snC (FX j 0) (FX j 1) (FX j 2) sv (fa j 2) (fa j 3) (fa j 8)), ((fa j 2), tmC tv), ((fa j 3), boC (fa j 4) (fa j 6) bv), ((fa j 4), mkC (fa j 5)), ((fa j 5), .inl (cJ, 4, .inr (.inl f))), ((fa j 6), mkC (fa j 7)), ((fa j 7), .inl (cJ, 4, .inr (.inl g))), ((fa j 8), cuC cv), ((fa j 9), rcC (FX j 0) rv (FX j 3) (fa j 10)), ((fa j 10), mkC (fa j 11)), ((fa j 11), .inl (cJ, 4, .inr (.inl kf)))]) (N := 20) [0, 1, 12, 13, 14, 15, 16, 2, 3, 4, 5, 6, 7, 8, 9, 10, 11, 17, 18, 19] rfl rfl (by decide))
              have hP := hP.perm hpo
              have hD := hD.perm hpo
              clear hpo
              have hP : va_P D vwCl (([(b0, cbC r0 fl nw), (fl, flC cO n fa), (r0, rdC ov (va_rf ol) r1 r2 r3 r4 r5), (r1, chC cf cl zn 0), (r2, chC cf cl zn 1), (r3, chC cf cl zn 2), (r4, chC cf cl zn 3), (r5, tlC cI tf), ((fa j 0), fwC (fa j 1) (fa j 9)), ((fa j 1), snC (FX j 0) (FX j 1) (FX j 2) sv (fa j 2) (fa j 3) (fa j 8)), ((fa j 2), tmC tv), ((fa j 3), boC (fa j 4) (fa j 6) bv), ((fa j 4), mkC (fa j 5)), ((fa j 5), .inl (cJ, 4, .inr (.inl f))), ((fa j 6), mkC (fa j 7)), ((fa j 7), .inl (cJ, 4, .inr (.inl g))), ((fa j 8), cuC cv), ((fa j 9), rcC (FX j 0) rv (FX j 3) (fa j 10)), ((fa j 10), mkC (fa j 11)), ((fa j 11), .inl (cJ, 4, .inr (.inl kf)))] ++ va_pl L (pf cJ kd pi bd af bo)) ++ (FA_56 ++ FB_57)) H := hP
              have hD : va_D A (([(b0, cbC r0 fl nw), (fl, flC cO n fa), (r0, rdC ov (va_rf ol) r1 r2 r3 r4 r5), (r1, chC cf cl zn 0), (r2, chC cf cl zn 1), (r3, chC cf cl zn 2), (r4, chC cf cl zn 3), (r5, tlC cI tf), ((fa j 0), fwC (fa j 1) (fa j 9)), ((fa j 1), snC (FX j 0) (FX j 1) (FX j 2) sv (fa j 2) (fa j 3) (fa j 8)), ((fa j 2), tmC tv), ((fa j 3), boC (fa j 4) (fa j 6) bv), ((fa j 4), mkC (fa j 5)), ((fa j 5), .inl (cJ, 4, .inr (.inl f))), ((fa j 6), mkC (fa j 7)), ((fa j 7), .inl (cJ, 4, .inr (.inl g))), ((fa j 8), cuC cv), ((fa j 9), rcC (FX j 0) rv (FX j 3) (fa j 10)), ((fa j 10), mkC (fa j 11)), ((fa j 11), .inl (cJ, 4, .inr (.inl kf)))] ++ va_pl L (pf cJ kd pi bd af bo)) ++ (FA_56 ++ FB_57)) := hD
              have hR := hf_77.1
              have hPB := hf_77.2.1
              have hZ := hf_77.2.2.1
              have hg0 := gr_trans hle0 hg0 hf_77.2.2.2.1
              obtain ⟨c_78, hc_78⟩ : ∃ y, y = c0 + q_74 := ⟨_, rfl⟩
              rw [show 0 + c0 + q_74 = 0 + c_78 by omega] at hg0
              have hB_c_78 : c_78 ≤ 12001 := by have := hf_77.2.2.2.2.1; omega
              refine W.grown hg0 ?_
              have hQ := hf_77.2.2.2.2.2.2
              have hadx := hf_77.2.2.2.2.2.1
              rw [hd] at hadx
              have h9 := hQ.1 z_43 m_z_43
              have m_z_43 := h9.1
              have k_z_43 := h9.2.1.trans k_z_43
              have t_z_43 := h9.2.2 t_z_43
              have hpo := pm_close (X := [(b0, cbC r0 fl nw), (fl, flC cO n fa), (r0, rdC ov (va_rf ol) r1 r2 r3 r4 r5), (r1, chC cf cl zn 0), (r2, chC cf cl zn 1), (r3, chC cf cl zn 2), (r4, chC cf cl zn 3), (r5, tlC cI tf)]) (c := [((fa j 0), fwC (fa j 1) (fa j 9)), ((fa j 1), snC (FX j 0) (FX j 1) (FX j 2) sv (fa j 2) (fa j 3) (fa j 8)), ((fa j 2), tmC tv), ((fa j 3), boC (fa j 4) (fa j 6) bv), ((fa j 4), mkC (fa j 5)), ((fa j 5), .inl (cJ, 4, .inr (.inl f))), ((fa j 6), mkC (fa j 7)), ((fa j 7), .inl (cJ, 4, .inr (.inl g))), ((fa j 8), cuC cv), ((fa j 9), rcC (FX j 0) rv (FX j 3) (fa j 10)), ((fa j 10), mkC (fa j 11)), ((fa j 11), .inl (cJ, 4, .inr (.inl kf)))]) (pl := va_pl L (pf cJ kd pi bd af bo)) (fls_up (sv := sv) (tv := tv) (bv := bv) (cv := cv) (rv := rv) (f := f) (g := g) (kf := kf) hfu_59) (perm_idx (X := [(b0, cbC r0 fl nw), (fl, flC cO n fa), (r0, rdC ov (va_rf ol) r1 r2 r3 r4 r5), (r1, chC cf cl zn 0), (r2, chC cf cl zn 1), (r3, chC cf cl zn 2), (r4, chC cf cl zn 3), (r5, tlC cI tf), ((fa j 0), fwC (fa j 1) (fa j 9)), ((fa j 1), snC (FX j 0) (FX j 1) (FX j 2) sv (fa j 2) (fa j 3) (fa j 8)), ((fa j 2), tmC tv), ((fa j 3), boC (fa j 4) (fa j 6) bv), ((fa j 4), mkC (fa j 5)), ((fa j 5), .inl (cJ, 4, .inr (.inl f))), ((fa j 6), mkC (fa j 7)), ((fa j 7), .inl (cJ, 4, .inr (.inl g))), ((fa j 8), cuC cv), ((fa j 9), rcC (FX j 0) rv (FX j 3) (fa j 10)), ((fa j 10), mkC (fa j 11)), ((fa j 11), .inl (cJ, 4, .inr (.inl kf)))]) (Y := [(b0, cbC r0 fl nw), (fl, flC cO n fa), (r0, rdC ov (va_rf ol) r1 r2 r3 r4 r5), (r1, chC cf cl zn 0), (r2, chC cf cl zn 1), (r3, chC cf cl zn 2), (r4, chC cf cl zn 3), (r5, tlC cI tf), ((fa j 0), fwC (fa j 1) (fa j 9)), ((fa j 1), snC (FX j 0) (FX j 1) (FX j 2) sv (fa j 2) (fa j 3) (fa j 8)), ((fa j 2), tmC tv), ((fa j 3), boC (fa j 4) (fa j 6) bv), ((fa j 4), mkC (fa j 5)), ((fa j 5), .inl (cJ, 4, .inr (.inl f))), ((fa j 6), mkC (fa j 7)), ((fa j 7), .inl (cJ, 4, .inr (.inl g))), ((fa j 8), cuC cv), ((fa j 9), rcC (FX j 0) rv (FX j 3) (fa j 10)), ((fa j 10), mkC (fa j 11)), ((fa j 11), .inl (cJ, 4, .inr (.inl kf)))]) (N := 20) [0, 1, 2, 3, 4, 5, 6, 7, 8, 9, 10, 11, 12, 13, 14, 15, 16, 17, 18, 19] rfl rfl (by decide))
              have hP := hP.perm hpo
              have hD := hD.perm hpo
              clear hpo hfu_59
              have hP : va_P D vwCl (([(b0, cbC r0 fl nw), (fl, flC cO n fa), (r0, rdC ov (va_rf ol) r1 r2 r3 r4 r5), (r1, chC cf cl zn 0), (r2, chC cf cl zn 1), (r3, chC cf cl zn 2), (r4, chC cf cl zn 3), (r5, tlC cI tf)] ++ va_pl L (pf cJ kd pi bd af bo)) ++ fls cJ fa FX (va_up FV j (fpk sv tv bv cv rv)) (va_up FJ j (fpj f g kf)) n) H := hP
              have hD : va_D A (([(b0, cbC r0 fl nw), (fl, flC cO n fa), (r0, rdC ov (va_rf ol) r1 r2 r3 r4 r5), (r1, chC cf cl zn 0), (r2, chC cf cl zn 1), (r3, chC cf cl zn 2), (r4, chC cf cl zn 3), (r5, tlC cI tf)] ++ va_pl L (pf cJ kd pi bd af bo)) ++ fls cJ fa FX (va_up FV j (fpk sv tv bv cv rv)) (va_up FJ j (fpj f g kf)) n) := hD
              generalize hfv : va_up FV j (fpk sv tv bv cv rv) = FV at hP hD
              generalize hfj : va_up FJ j (fpj f g kf) = FJ at hP hD
              have hE := bs_at hfv hE
              have hE := bs_at hfj hE
              clear hfv hfj
              refine lv_aload_n hx hb dX10_bringSegments_85 rfl (lv_at hl 1 rfl) ?_
              refine va_get (D := D) (ci := 10) (v := .ref r0) (C := RX10) (T := TX10) (N := 3) hx hb ha inlX10 hown hK hP 0 rfl rfl 0 (by decide) (ha _ kf_X10_10) (fun _ h9 => h9) rfl dX10_bringSegments_86 ?_
              refine va_getN (D := D) (ci := 7) (v := .ref r4) (C := RX7) (T := TX7) (N := 15) hx hb ha inlX7 hown hK hP 2 rfl rfl 8 (by decide) (va_Nw.use rfl (hN.f RX10 127 "CongestionBench$Road" "spare" "LCongestionBench$Chain;" "CongestionBench" (by decide +kernel))) (fun _ h9 => h9) rfl dX10_bringSegments_89 ?_
              refine lv_aload_n hx hb dX10_bringSegments_92 rfl (lv_at hl 0 rfl) ?_
              have hp0 := perm_idx (X := [(b0, cbC r0 fl nw), (fl, flC cO n fa), (r0, rdC ov (va_rf ol) r1 r2 r3 r4 r5), (r1, chC cf cl zn 0), (r2, chC cf cl zn 1), (r3, chC cf cl zn 2), (r4, chC cf cl zn 3), (r5, tlC cI tf)]) (Y := [(r4, chC cf cl zn 3)] ++ [(b0, cbC r0 fl nw), (fl, flC cO n fa), (r0, rdC ov (va_rf ol) r1 r2 r3 r4 r5), (r1, chC cf cl zn 0), (r2, chC cf cl zn 1), (r3, chC cf cl zn 2), (r5, tlC cI tf)]) (N := 8) [6, 0, 1, 2, 3, 4, 5, 7] rfl rfl (by decide)
              have hPq := hP.perm (pm_P (cx := [(r4, chC cf cl zn 3)]) (xr := [(b0, cbC r0 fl nw), (fl, flC cO n fa), (r0, rdC ov (va_rf ol) r1 r2 r3 r4 r5), (r1, chC cf cl zn 0), (r2, chC cf cl zn 1), (r3, chC cf cl zn 2), (r5, tlC cI tf)]) (pl := va_pl L (pf cJ kd pi bd af bo)) (R := fls cJ fa FX FV FJ n) hp0)
              have hDq := hD.perm (pm_P (cx := [(r4, chC cf cl zn 3)]) (xr := [(b0, cbC r0 fl nw), (fl, flC cO n fa), (r0, rdC ov (va_rf ol) r1 r2 r3 r4 r5), (r1, chC cf cl zn 0), (r2, chC cf cl zn 1), (r3, chC cf cl zn 2), (r5, tlC cI tf)]) (pl := va_pl L (pf cJ kd pi bd af bo)) (R := fls cJ fa FX FV FJ n) hp0)
              have hPc := hPq.left
              have hDc := hDq.left
              have hFc := va_freeR hDq hS hA
              refine va_callv (va_runV (As := [.ref z_43]) (rest := []) ⟨hx, hb, hml, hown, ha⟩ (s_append l D cI cJ cZ cO _ r4 z_43 L kd pi bd af bo (cf 3) (cl 3) (zn 3) m_z_43 k_z_43 (RI_la hR (by decide))) (cwV 1 ha (gaV kl_X10_130 km_X1_append ks_X1_append kz_X1 kd_X1_append) rfl rfl rfl (by decide +kernel) ⟨Nat.le_of_ble_eq_true rfl, Nat.le_of_ble_eq_true rfl⟩) ⟨pw_blind, va_recv hK hPc (ci := 1) (q0 := 0) rfl rfl, fun U hU hW => ⟨rfl, pw_start hU hW hPc hK hDc hN⟩⟩ rfl rfl hl.1 rfl (lv_room (Nat.le_of_ble_eq_true rfl)) dX10_bringSegments_93 ⟨show 2 * (0 + c_78) + 0 ≤ 24010 by omega, show 11 * (0 + c_78) + 0 ≤ 132110 by omega⟩) hS (fun q _ h => hFc q h) hFc (fun u t H1 locs ht hvm hw hB hz1 hk1 hS => ?_)
              obtain ⟨hP1, hK1, hD1⟩ := hB
              rw [ht] at hP1
              obtain ⟨hP, hD⟩ := va_joinR (w1 := ([(r4, .inr (1, [va_rf (ap_fi (cl 3) (cf 3) z_43), va_rf (some z_43), .int ((zn 3) + 1)]))] ++ va_pl L (pf cJ kd pi bd (ap_af af (cl 3) z_43) bo))) hPq hDq hk1 hFc hP1 hD1
              have hP := hP.perm (pm_Pb (xr := [(b0, cbC r0 fl nw), (fl, flC cO n fa), (r0, rdC ov (va_rf ol) r1 r2 r3 r4 r5), (r1, chC cf cl zn 0), (r2, chC cf cl zn 1), (r3, chC cf cl zn 2), (r5, tlC cI tf)]) (rx := [(r4, .inr (1, [va_rf (ap_fi (cl 3) (cf 3) z_43), va_rf (some z_43), .int ((zn 3) + 1)]))]) (pl := va_pl L (pf cJ kd pi bd (ap_af af (cl 3) z_43) bo)) (R := fls cJ fa FX FV FJ n))
              have hD := hD.perm (pm_Pb (xr := [(b0, cbC r0 fl nw), (fl, flC cO n fa), (r0, rdC ov (va_rf ol) r1 r2 r3 r4 r5), (r1, chC cf cl zn 0), (r2, chC cf cl zn 1), (r3, chC cf cl zn 2), (r5, tlC cI tf)]) (rx := [(r4, .inr (1, [va_rf (ap_fi (cl 3) (cf 3) z_43), va_rf (some z_43), .int ((zn 3) + 1)]))]) (pl := va_pl L (pf cJ kd pi bd (ap_af af (cl 3) z_43) bo)) (R := fls cJ fa FX FV FJ n))
              clear hp0 hPq hDq hPc hDc hP1 hD1
              generalize H1 = H at hP hS ⊢
              have hP : va_P D vwCl (([(b0, cbC r0 fl nw), (fl, flC cO n fa), (r0, rdC ov (va_rf ol) r1 r2 r3 r4 r5), (r1, chC cf cl zn 0), (r2, chC cf cl zn 1), (r3, chC cf cl zn 2), (r5, tlC cI tf), (r4, .inr (1, [va_rf (ap_fi (cl 3) (cf 3) z_43), va_rf (some z_43), .int ((zn 3) + 1)]))] ++ va_pl L (pf cJ kd pi bd (ap_af af (cl 3) z_43) bo)) ++ fls cJ fa FX FV FJ n) H := hP
              have hD : va_D A (([(b0, cbC r0 fl nw), (fl, flC cO n fa), (r0, rdC ov (va_rf ol) r1 r2 r3 r4 r5), (r1, chC cf cl zn 0), (r2, chC cf cl zn 1), (r3, chC cf cl zn 2), (r5, tlC cI tf), (r4, .inr (1, [va_rf (ap_fi (cl 3) (cf 3) z_43), va_rf (some z_43), .int ((zn 3) + 1)]))] ++ va_pl L (pf cJ kd pi bd (ap_af af (cl 3) z_43) bo)) ++ fls cJ fa FX FV FJ n) := hD
              have hpo := pm_X (pl := va_pl L (pf cJ kd pi bd (ap_af af (cl 3) z_43) bo)) (R := fls cJ fa FX FV FJ n) (perm_idx (X := [(b0, cbC r0 fl nw), (fl, flC cO n fa), (r0, rdC ov (va_rf ol) r1 r2 r3 r4 r5), (r1, chC cf cl zn 0), (r2, chC cf cl zn 1), (r3, chC cf cl zn 2), (r5, tlC cI tf), (r4, .inr (1, [va_rf (ap_fi (cl 3) (cf 3) z_43), va_rf (some z_43), .int ((zn 3) + 1)]))]) (Y := [(b0, cbC r0 fl nw), (fl, flC cO n fa), (r0, rdC ov (va_rf ol) r1 r2 r3 r4 r5), (r1, chC cf cl zn 0), (r2, chC cf cl zn 1), (r3, chC cf cl zn 2), (r4, .inr (1, [va_rf (ap_fi (cl 3) (cf 3) z_43), va_rf (some z_43), .int ((zn 3) + 1)])), (r5, tlC cI tf)]) (N := 8) [0, 1, 2, 3, 4, 5, 7, 6] rfl rfl (by decide))
              have hP := hP.perm hpo
              have hD := hD.perm hpo
              clear hpo
              have hP : va_P D vwCl (([(b0, cbC r0 fl nw), (fl, flC cO n fa), (r0, rdC ov (va_rf ol) r1 r2 r3 r4 r5), (r1, chC cf cl zn 0), (r2, chC cf cl zn 1), (r3, chC cf cl zn 2), (r4, .inr (1, [va_rf (ap_fi (cl 3) (cf 3) z_43), va_rf (some z_43), .int ((zn 3) + 1)])), (r5, tlC cI tf)] ++ va_pl L (pf cJ kd pi bd (ap_af af (cl 3) z_43) bo)) ++ fls cJ fa FX FV FJ n) H := hP
              have hD : va_D A (([(b0, cbC r0 fl nw), (fl, flC cO n fa), (r0, rdC ov (va_rf ol) r1 r2 r3 r4 r5), (r1, chC cf cl zn 0), (r2, chC cf cl zn 1), (r3, chC cf cl zn 2), (r4, .inr (1, [va_rf (ap_fi (cl 3) (cf 3) z_43), va_rf (some z_43), .int ((zn 3) + 1)])), (r5, tlC cI tf)] ++ va_pl L (pf cJ kd pi bd (ap_af af (cl 3) z_43) bo)) ++ fls cJ fa FX FV FJ n) := hD
              refine W.widen (k := 2 * (0 + c_78)) (n := 11 * (0 + c_78)) (Nat.le_refl _) (Nat.le_refl _) ?_
              obtain ⟨hTK, hln⟩ := TK_seg hTK e1 hxa hQ hadx hwd hc (by decide)
              have hln : (va_up xl 3 (xl 3 ++ [z_43]) 1).length = t_l1.length := by rw [va_up_ne _ _ (by decide)]; exact hln
              have hZ := ZN_app (q := z_43) hZ (j := 3) (by decide)
              have hR := RI_append hR (i := 3) (by decide) m_z_43 k_z_43 t_z_43
              generalize (ap_af af (cl 3) z_43) = af at hP hD hR
              have hP : va_P D vwCl (([(b0, cbC r0 fl nw), (fl, flC cO n fa), (r0, rdC ov (va_rf ol) r1 r2 r3 r4 r5), (r1, .inr (1, [va_rf ((va_up cf 3 (ap_fi (cl 3) (cf 3) z_43)) 0), va_rf ((va_up cl 3 (some z_43)) 0), .int ((va_up zn 3 (zn 3 + 1)) 0)])), (r2, .inr (1, [va_rf ((va_up cf 3 (ap_fi (cl 3) (cf 3) z_43)) 1), va_rf ((va_up cl 3 (some z_43)) 1), .int ((va_up zn 3 (zn 3 + 1)) 1)])), (r3, .inr (1, [va_rf ((va_up cf 3 (ap_fi (cl 3) (cf 3) z_43)) 2), va_rf ((va_up cl 3 (some z_43)) 2), .int ((va_up zn 3 (zn 3 + 1)) 2)])), (r4, .inr (1, [va_rf ((va_up cf 3 (ap_fi (cl 3) (cf 3) z_43)) 3), va_rf ((va_up cl 3 (some z_43)) 3), .int ((va_up zn 3 (zn 3 + 1)) 3)])), (r5, tlC cI tf)] ++ va_pl L (pf cJ kd pi bd af bo)) ++ fls cJ fa FX FV FJ n) H := hP
              have hD : va_D A (([(b0, cbC r0 fl nw), (fl, flC cO n fa), (r0, rdC ov (va_rf ol) r1 r2 r3 r4 r5), (r1, .inr (1, [va_rf ((va_up cf 3 (ap_fi (cl 3) (cf 3) z_43)) 0), va_rf ((va_up cl 3 (some z_43)) 0), .int ((va_up zn 3 (zn 3 + 1)) 0)])), (r2, .inr (1, [va_rf ((va_up cf 3 (ap_fi (cl 3) (cf 3) z_43)) 1), va_rf ((va_up cl 3 (some z_43)) 1), .int ((va_up zn 3 (zn 3 + 1)) 1)])), (r3, .inr (1, [va_rf ((va_up cf 3 (ap_fi (cl 3) (cf 3) z_43)) 2), va_rf ((va_up cl 3 (some z_43)) 2), .int ((va_up zn 3 (zn 3 + 1)) 2)])), (r4, .inr (1, [va_rf ((va_up cf 3 (ap_fi (cl 3) (cf 3) z_43)) 3), va_rf ((va_up cl 3 (some z_43)) 3), .int ((va_up zn 3 (zn 3 + 1)) 3)])), (r5, tlC cI tf)] ++ va_pl L (pf cJ kd pi bd af bo)) ++ fls cJ fa FX FV FJ n) := hD
              generalize va_up cf 3 (ap_fi (cl 3) (cf 3) z_43) = cf at hP hD hR
              generalize va_up cl 3 (some z_43) = cl at hP hD hR
              generalize va_up zn 3 (zn 3 + 1) = zn at hP hD hZ
              have hG := GG_x3 (l := xl 3 ++ [z_43]) hG
              generalize va_up xl 3 (xl 3 ++ [z_43]) = xl at hR hZ hTK hln hG
              generalize va_up tag z_43 3 = tag at hR
              rw [show b + c0 + q_74 = b + c_78 by omega] at hTK
              have hB_c_78 : c_78 ≤ 12000 := by have := (TK_b hTK).1; omega
              obtain ⟨x_80, ex_80⟩ : ∃ y : Int32, y = lf + (-1) := ⟨_, rfl⟩
              refine lv_iinc (v := x_80) (lv' := [(1, .int x_80), (2, .ref z_43), (0, .ref b0)]) hx hb dX10_bringSegments_96 hl (k := 2) rfl (by rw [ex_80]; rfl) (by decide) rfl (fun ls hl => ?_)
              refine lv_goto (tgt := 11) hx hb dX10_bringSegments_99 (by decide) ?_
              have hx9 : x_80 = nI (xl 1).length := by rw [ex_80, hlf, e1, List.length_cons, hln, ← Int32.sub_eq_add_neg, nI_pred]
              have hm9 : (xl 1).length < k := by rw [e1, List.length_cons] at hm; omega
              refine W.know2 (fun hka hkb => ?_)
              have hg0 : gr s.heap _ (0 + c_78) := ⟨hka, hkb⟩
              exact ih c_78 x_80 ov tf ol cf cl zn xl tag L kd pi bd af bo go gq gw ga FV FJ _ _ hP hD hS hR hPB hZ hG hJ hT hLK hTK hg0 hd hx9 _ (lv_sub hl [2, 0] rfl) hE hm9
  have hg9 : gr s.heap s.heap (0 + 0) := ⟨by omega, fun k hk => by omega⟩
  rw [hQP] at loop
  exact loop ((xl 1).length + 1) 0 (zn 1) ov tf ol cf cl zn xl tag L kd pi bd af bo go gq gw ga FV FJ _ _ hP hD hS hR hPB hZ hG hJ hT hLK hK0 hg9 hd (hZ 1 (by decide)) _ (lv_sub hl [1, 0] rfl) hE (Nat.lt_succ_self _)
