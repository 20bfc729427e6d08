set_option maxRecDepth 100000 in
def xc_blearnP_74 (row : R4) (n1 : Int32) (n2 : Int32) (k_21 : (Nat → Int32) → (Nat → Int64) → (Nat → Int64) → Int32 → Int32 → Int32 → Int32 → (Nat → Int32) × (Nat → Int64) × (Nat → Int64)) (bv : Nat → Int32) (f : Nat → Int64) (g : Nat → Int64) (i2 : Int32) (i3 : Int32) (i4 : Int32) (i5 : Int32) : (Nat → Int32) × (Nat → Int64) × (Nat → Int64) := bd (i5 + (-1)) (fun v1 => k_21 bv f g i2 i3 i4 v1)
set_option maxRecDepth 100000 in
def xc_blearnP_71 (row : R4) (n1 : Int32) (n2 : Int32) (k_21 : (Nat → Int32) → (Nat → Int64) → (Nat → Int64) → Int32 → Int32 → Int32 → Int32 → (Nat → Int32) × (Nat → Int64) × (Nat → Int64)) (bv : Nat → Int32) (f : Nat → Int64) (g : Nat → Int64) (i2 : Int32) (i3 : Int32) (i4 : Int32) (i5 : Int32) (s0 : Int32) : (Nat → Int32) × (Nat → Int64) × (Nat → Int64) := bd (upd bv 2 s0) (fun bv => xc_blearnP_74 row n1 n2 k_21 bv f g i2 i3 i4 i5)
set_option maxRecDepth 100000 in
def xc_blearnP_21 (row : R4) (n1 : Int32) (n2 : Int32) : Nat → (Nat → Int32) → (Nat → Int64) → (Nat → Int64) → Int32 → Int32 → Int32 → Int32 → (Nat → Int32) × (Nat → Int64) × (Nat → Int64)
  | 0, bv, f, g, i2, i3, i4, i5 => (bv, f, g)
  | fu + 1, bv, f, g, i2, i3, i4, i5 => (if i5 ≤ i2 then (bv, f, g) else (if (3 : Int32) ≤ i4 then (bv, f, g) else bd (xc_isEmpty f) (fun t2 => bd (t2.1) (fun f => bd (t2.2) (fun v3 => (if v3 = (0 : Int32) then bd (xc_has f i5) (fun t4 => bd (t4.1) (fun f => bd (t4.2) (fun v5 => (if v5 = (0 : Int32) then xc_blearnP_74 row n1 n2 (xc_blearnP_21 row n1 n2 fu) bv f g i2 i3 i4 i5 else bd (i4 + 1) (fun v6 => (if v6 = (3 : Int32) then xc_blearnP_71 row n1 n2 (xc_blearnP_21 row n1 n2 fu) bv f g i2 i3 v6 i5 i5 else xc_blearnP_71 row n1 n2 (xc_blearnP_21 row n1 n2 fu) bv f g i2 i3 v6 i5 (0 : Int32))))))) else (bv, f, g)))))))
set_option maxRecDepth 100000 in
def xc_blearnP (bv : Nat → Int32) (f : Nat → Int64) (g : Nat → Int64) (n1 : Int32) (n2 : Int32) (row : R4) : (Nat → Int32) × (Nat → Int64) × (Nat → Int64) := bd (xc_readFromP f row) (fun t7 => bd (t7) (fun f => bd (upd bv 2 (0 : Int32)) (fun bv => bd (n2 - (1 : Int32)) (fun v8 => xc_blearnP_21 row n1 n2 ((v8.toInt - n1.toInt).toNat + 1) bv f g n1 n2 (0 : Int32) v8))))
set_option maxHeartbeats 4000000 in
set_option maxRecDepth 100000 in
theorem s_blearnP (l : Launch) (D : va_G) (cI cJ cZ cO : ClassId) (sz : Nat) (h0 h1 h2 h3 h4 w : Nat) (bv : Nat → Int32) (f g : Nat → Int64) (L : List Nat) (kd : Nat → Bool) (pi : Nat → Nat → Int32) (bd : Nat → Nat) (af : Nat → Option Nat) (bo : Nat → Nat → Int64) (n1 n2 : Int32) (m_w : w ∈ L) (k_w : kd w = true) : Met l yX0_learn (wa yX0_learn cX0_learn 6 none) ({ frames := 1, cells := 0, slots := 0, locals := 22 }) (va_Pc [.ref h0, .ref w, .int n1, .int n2] (pw_s D cI cJ cZ cO sz ([(h0, boC h1 h3 bv), (h1, mkC h2), (h2, .inl (cJ, 4, .inr (.inl f))), (h3, mkC h4), (h4, .inl (cJ, 4, .inr (.inl g)))] ++ va_pl L (pf cJ kd pi bd af bo)))) (va_Qv (fun (_ : Unit) => True) (fun (_ : Unit) (t : State) => ∃ (bv2 : Nat → Int32) (f2 g2 : Nat → Int64), (bv2 = (xc_blearnP bv f g n1 n2 (rw4 (bo w))).1 ∧ f2 = (xc_blearnP bv f g n1 n2 (rw4 (bo w))).2.1 ∧ g2 = (xc_blearnP bv f g n1 n2 (rw4 (bo w))).2.2) ∧ pw_t D cI cJ cZ cO (va_A ([(h0, boC h1 h3 bv), (h1, mkC h2), (h2, .inl (cJ, 4, .inr (.inl f))), (h3, mkC h4), (h4, .inl (cJ, 4, .inr (.inl g)))] ++ va_pl L (pf cJ kd pi bd af bo)) sz) ([(h0, boC h1 h3 bv2), (h1, mkC h2), (h2, .inl (cJ, 4, .inr (.inl f2))), (h3, mkC h4), (h4, .inl (cJ, 4, .inr (.inl g2)))] ++ va_pl L (pf cJ kd pi bd af bo)) t) (va_A ([(h0, boC h1 h3 bv), (h1, mkC h2), (h2, .inl (cJ, 4, .inr (.inl f))), (h3, mkC h4), (h4, .inl (cJ, 4, .inr (.inl g)))] ++ va_pl L (pf cJ kd pi bd af bo)) sz)) 0 0 (va_A ([(h0, boC h1 h3 bv), (h1, mkC h2), (h2, .inl (cJ, 4, .inr (.inl f))), (h3, mkC h4), (h4, .inl (cJ, 4, .inr (.inl g)))] ++ va_pl L (pf cJ kd pi bd af bo)) sz) := by
  refine Met.ofW (cc := cX0_learn) (maxL := 6) (ret := none) (by decide) rfl ?_
  intro p e s m args below meth c s₁ B hml hv
  obtain ⟨rfl, hsz, hP, hK, hD0, hN⟩ := hv
  have hx := B.exec
  have hb := B.bytes
  have hr := B.returns
  have hts := atoms_spec (ws := (wa yX0_learn cX0_learn 6 none)) B.pre
  have ha : ∀ w ∈ wsL_law, w.before _ s = true := fun w h => hts w (List.mem_cons_of_mem _ h)
  have hown : s.vm.findClass RX0 = some m.cls := findClass_of_methodNamed B.named
  have hlocks := B.notSynchronized
  subst hsz
  have hD := hD0.self (sz := s.heap.size)
  generalize hAe : va_A ([(h0, boC h1 h3 bv), (h1, mkC h2), (h2, .inl (cJ, 4, .inr (.inl f))), (h3, mkC h4), (h4, .inl (cJ, 4, .inr (.inl g)))] ++ va_pl L (pf cJ kd pi bd af bo)) s.heap.size = A at hD ⊢
  have hA : ∀ q : Nat, s.heap.size ≤ q → A q := fun q h => by rw [← hAe]; exact Or.inr h
  have hS : va_S A s.heap s.heap [] := va_S.rf
  have hP : va_P D vwCl ([(h0, boC h1 h3 bv), (h1, mkC h2), (h2, .inl (cJ, 4, .inr (.inl f))), (h3, mkC h4), (h4, .inl (cJ, 4, .inr (.inl g)))] ++ va_pl L (pf cJ kd pi bd af bo)) s.heap := hP
  have hl := lv_entry ([.ref h0, .ref w, .int n1, .int n2]) (n := 6) (Nat.le_of_ble_eq_true rfl)
  rw [lg_entry_eq]
  generalize (lg_sl ([.ref h0, .ref w, .int n1, .int n2]) ++ List.replicate (6 - (lg_sl ([.ref h0, .ref w, .int n1, .int n2])).length) Slot.unset).toArray = ls at hl ⊢
  have hl : lv_has ls 6 [(0, .ref h0), (1, .ref w), (2, .int n1), (3, .int n2)] := hl
  obtain ⟨QP, hQP⟩ : ∃ y : State → Prop, y = (MQ below (va_Qv (fun (_ : Unit) => True) (fun (_ : Unit) (t : State) => ∃ (bv2 : Nat → Int32) (f2 g2 : Nat → Int64), (bv2 = (xc_blearnP bv f g n1 n2 (rw4 (bo w))).1 ∧ f2 = (xc_blearnP bv f g n1 n2 (rw4 (bo w))).2.1 ∧ g2 = (xc_blearnP bv f g n1 n2 (rw4 (bo w))).2.2) ∧ pw_t D cI cJ cZ cO A ([(h0, boC h1 h3 bv2), (h1, mkC h2), (h2, .inl (cJ, 4, .inr (.inl f2))), (h3, mkC h4), (h4, .inl (cJ, 4, .inr (.inl g2)))] ++ va_pl L (pf cJ kd pi bd af bo)) t) A) #[(.ref h0 : Value), (.ref w : Value), (.int n1 : Value), (.int n2 : Value)] s 0 0 A) := ⟨_, rfl⟩
  obtain ⟨RES, hRES⟩ : ∃ y, y = (xc_blearnP bv f g n1 n2 (rw4 (bo w))) := ⟨_, rfl⟩
  have L_21 : ∀ (n_21 : Nat), ∀ (bv : Nat → Int32) (f : Nat → Int64) (g : Nat → Int64) (H : Heap) (locs : List Loc), va_P D vwCl ([(h0, boC h1 h3 bv), (h1, mkC h2), (h2, .inl (cJ, 4, .inr (.inl f))), (h3, mkC h4), (h4, .inl (cJ, 4, .inr (.inl g)))] ++ va_pl L (pf cJ kd pi bd af bo)) H → va_D A ([(h0, boC h1 h3 bv), (h1, mkC h2), (h2, .inl (cJ, 4, .inr (.inl f))), (h3, mkC h4), (h4, .inl (cJ, 4, .inr (.inl g)))] ++ va_pl L (pf cJ kd pi bd af bo)) → va_S A s.heap H locs → ∀ (i2 : Int32) (i3 : Int32) (i4 : Int32) (i5 : Int32) (ls : Array Slot), lv_has ls 6 [(0, .ref h0), (1, .ref w), (2, .int i2), (3, .int i3), (4, .int i4), (5, .int i5)] → RES = xc_blearnP_21 (rw4 (bo w)) n1 n2 n_21 bv f g i2 i3 i4 i5 →  (i5.toInt - i2.toInt).toNat < n_21 → W p l e ({ frames := 1, cells := 0, slots := 0, locals := 22 }) s m #[(.ref h0 : Value), (.ref w : Value), (.int n1 : Value), (.int n2 : Value)] below meth c H locs 0 0 QP (F0 m 21 ls []) := by
    intro n_21
    induction n_21 with
    | zero => intro bv f g H locs hP hD hS i2 i3 i4 i5 ls hl hE hm; exact absurd hm (Nat.not_lt_zero _)
    | succ n_21 ih_21 =>
      have J_74 : ∀ (bv : Nat → Int32) (f : Nat → Int64) (g : Nat → Int64) (H : Heap) (locs : List Loc), va_P D vwCl ([(h0, boC h1 h3 bv), (h1, mkC h2), (h2, .inl (cJ, 4, .inr (.inl f))), (h3, mkC h4), (h4, .inl (cJ, 4, .inr (.inl g)))] ++ va_pl L (pf cJ kd pi bd af bo)) H → va_D A ([(h0, boC h1 h3 bv), (h1, mkC h2), (h2, .inl (cJ, 4, .inr (.inl f))), (h3, mkC h4), (h4, .inl (cJ, 4, .inr (.inl g)))] ++ va_pl L (pf cJ kd pi bd af bo)) → va_S A s.heap H locs → ∀ (i2 : Int32) (i3 : Int32) (i4 : Int32) (i5 : Int32) (ls : Array Slot), lv_has ls 6 [(0, .ref h0), (1, .ref w), (2, .int i2), (3, .int i3), (4, .int i4), (5, .int i5)] → RES = xc_blearnP_74 (rw4 (bo w)) n1 n2 (xc_blearnP_21 (rw4 (bo w)) n1 n2 n_21) bv f g i2 i3 i4 i5 → ((i5 + (-1)).toInt - i2.toInt).toNat < n_21 → W p l e ({ frames := 1, cells := 0, slots := 0, locals := 22 }) s m #[(.ref h0 : Value), (.ref w : Value), (.int n1 : Value), (.int n2 : Value)] below meth c H locs 0 0 QP (F0 m 74 ls []) := by
        intro bv f g H locs hP hD hS i2 i3 i4 i5 ls hl hE hq_21
        unfold xc_blearnP_74 at hE
        obtain ⟨x_20, ex_20⟩ : ∃ y : Int32, y = i5 + (-1) := ⟨_, rfl⟩
        have hE := bd_at ex_20 hE
        refine lv_iinc (v := x_20) (lv' := [(5, .int x_20), (0, .ref h0), (1, .ref w), (2, .int i2), (3, .int i3), (4, .int i4)]) hx hb dX0_learn_74 hl (k := 5) rfl (by rw [ex_20]; rfl) (by decide) rfl (fun ls hl => ?_)
        refine lv_goto (tgt := 21) hx hb dX0_learn_77 (by decide) ?_
        exact ih_21 bv f g _ _ hP hD hS i2 i3 i4 x_20 _ (lv_sub hl [1, 2, 3, 4, 5, 0] rfl) hE (by rw [ex_20]; exact hq_21)
      have J_71 : ∀ (bv : Nat → Int32) (f : Nat → Int64) (g : Nat → Int64) (H : Heap) (locs : List Loc), va_P D vwCl ([(h0, boC h1 h3 bv), (h1, mkC h2), (h2, .inl (cJ, 4, .inr (.inl f))), (h3, mkC h4), (h4, .inl (cJ, 4, .inr (.inl g)))] ++ va_pl L (pf cJ kd pi bd af bo)) H → va_D A ([(h0, boC h1 h3 bv), (h1, mkC h2), (h2, .inl (cJ, 4, .inr (.inl f))), (h3, mkC h4), (h4, .inl (cJ, 4, .inr (.inl g)))] ++ va_pl L (pf cJ kd pi bd af bo)) → va_S A s.heap H locs → ∀ (i2 : Int32) (i3 : Int32) (i4 : Int32) (i5 : Int32) (s0 : Int32) (ls : Array Slot), lv_has ls 6 [(0, .ref h0), (1, .ref w), (2, .int i2), (3, .int i3), (4, .int i4), (5, .int i5)] → RES = xc_blearnP_71 (rw4 (bo w)) n1 n2 (xc_blearnP_21 (rw4 (bo w)) n1 n2 n_21) bv f g i2 i3 i4 i5 s0 → ((i5 + (-1)).toInt - i2.toInt).toNat < n_21 → W p l e ({ frames := 1, cells := 0, slots := 0, locals := 22 }) s m #[(.ref h0 : Value), (.ref w : Value), (.int n1 : Value), (.int n2 : Value)] below meth c H locs 0 0 QP (F0 m 71 ls [.int s0, .ref h0]) := by
        intro bv f g H locs hP hD hS i2 i3 i4 i5 s0 ls hl hE hq_21
        unfold xc_blearnP_71 at hE
        refine va_put (D := D) (ci := 0) (v := .int s0) (ty := .int) (C := RX0) (T := TX0) (N := 4) hx hb ha inlX0 tyX0 tyX0_ok nmX0 hown hK hP hD hS 0 rfl rfl 2 (by decide) (ha _ kf_X0_29) (fun _ h9 => h9) rfl (by decide +kernel) rfl rfl (Nat.le_of_ble_eq_true rfl) dX0_learn_71 (fun H locs hP hD hS => ?_)
        have hP : va_P D vwCl ([(h0, boC h1 h3 (upd bv 2 s0)), (h1, mkC h2), (h2, .inl (cJ, 4, .inr (.inl f))), (h3, mkC h4), (h4, .inl (cJ, 4, .inr (.inl g)))] ++ va_pl L (pf cJ kd pi bd af bo)) H := hP
        have hD : va_D A ([(h0, boC h1 h3 (upd bv 2 s0)), (h1, mkC h2), (h2, .inl (cJ, 4, .inr (.inl f))), (h3, mkC h4), (h4, .inl (cJ, 4, .inr (.inl g)))] ++ va_pl L (pf cJ kd pi bd af bo)) := hD
        generalize hg_21 : upd bv 2 s0 = bv at hP hD
        have hE := bs_at hg_21 hE
        exact J_74 bv f g _ _ hP hD hS i2 i3 i4 i5 _ (lv_sub hl [0, 1, 2, 3, 4, 5] rfl) hE hq_21
      intro bv f g H locs hP hD hS i2 i3 i4 i5 ls hl hE hm_21
      rw [xc_blearnP_21] at hE
      refine lv_iload hx hb dX0_learn_21 (lv_at hl 5 rfl) ?_
      refine lv_iload_n hx hb dX0_learn_23 rfl (lv_at hl 2 rfl) ?_
      refine lv_icmp_le (tgt := 80) hx hb dX0_learn_24 (by decide) (fun c_22 => ?_) (fun c_22 => ?_)
      · have hE := hE.trans (if_pos c_22)
        rw [hQP]
        have hP9 : va_P D vwCl ([(h0, boC h1 h3 bv), (h1, mkC h2), (h2, .inl (cJ, 4, .inr (.inl f))), (h3, mkC h4), (h4, .inl (cJ, 4, .inr (.inl g)))] ++ va_pl L (pf cJ kd pi bd af bo)) _ := hP
        have hD9 : va_D A ([(h0, boC h1 h3 bv), (h1, mkC h2), (h2, .inl (cJ, 4, .inr (.inl f))), (h3, mkC h4), (h4, .inl (cJ, 4, .inr (.inl g)))] ++ va_pl L (pf cJ kd pi bd af bo)) := hD
        exact W.vret hx hb hr (fun t ht hW => ⟨⟨(), rfl, trivial, ⟨bv, f, g, ⟨(by rw [← hRES, hE]), (by rw [← hRES, hE]), (by rw [← hRES, hE])⟩, by rw [ht]; exact hP9, va_K.moved hW.alike hK, hD9⟩⟩, hS.F ht⟩) hS.2.2 dX0_learn_80
      · have hE := hE.trans (if_neg c_22)
        refine lv_iload hx hb dX0_learn_27 (lv_at hl 4 rfl) ?_
        refine lv_iconst (v := 3) hx hb dX0_learn_29 (by decide) ?_
        refine lv_icmp_ge (tgt := 80) hx hb dX0_learn_30 (by decide) (fun c_23 => ?_) (fun c_23 => ?_)
        · have hE := hE.trans (if_pos c_23)
          rw [hQP]
          have hP9 : va_P D vwCl ([(h0, boC h1 h3 bv), (h1, mkC h2), (h2, .inl (cJ, 4, .inr (.inl f))), (h3, mkC h4), (h4, .inl (cJ, 4, .inr (.inl g)))] ++ va_pl L (pf cJ kd pi bd af bo)) _ := hP
          have hD9 : va_D A ([(h0, boC h1 h3 bv), (h1, mkC h2), (h2, .inl (cJ, 4, .inr (.inl f))), (h3, mkC h4), (h4, .inl (cJ, 4, .inr (.inl g)))] ++ va_pl L (pf cJ kd pi bd af bo)) := hD
          exact W.vret hx hb hr (fun t ht hW => ⟨⟨(), rfl, trivial, ⟨bv, f, g, ⟨(by rw [← hRES, hE]), (by rw [← hRES, hE]), (by rw [← hRES, hE])⟩, by rw [ht]; exact hP9, va_K.moved hW.alike hK, hD9⟩⟩, hS.F ht⟩) hS.2.2 dX0_learn_80
        · have hE := hE.trans (if_neg c_23)
          refine lv_aload_n hx hb dX0_learn_33 rfl (lv_at hl 0 rfl) ?_
          refine va_get (D := D) (ci := 0) (v := .ref h1) (C := RX0) (T := TX0) (N := 4) hx hb ha inlX0 hown hK hP 0 rfl rfl 0 (by decide) (ha _ kf_X0_12) (fun _ h9 => h9) rfl dX0_learn_34 ?_
          have hPc := hP.sub (ws' := [(h1, mkC h2), (h2, .inl (cJ, 4, .inr (.inl f)))]) [1, 2] rfl
          have hDc := hD.sub (ws' := [(h1, mkC h2), (h2, .inl (cJ, 4, .inr (.inl f)))]) [1, 2] (by decide) rfl
          have hFc := va_free (wc := [(h1, mkC h2), (h2, .inl (cJ, 4, .inr (.inl f)))]) hD hS hA [1, 2] rfl
          refine va_calli (va_runV (As := []) (rest := []) ⟨hx, hb, hml, hown, ha⟩ (s_isEmpty l D cI cJ cZ cO _ h1 h2 f) (cwV 0 ha (gaV kl_X0_32 km_X4_isEmpty ks_X4_isEmpty kz_X4 kd_X4_isEmpty) rfl rfl rfl (by decide +kernel) ⟨Nat.le_of_ble_eq_true rfl, Nat.le_of_ble_eq_true rfl⟩) ⟨pw_blind, va_recv hK hPc (ci := 4) (q0 := 0) rfl rfl, fun U hU hW => ⟨rfl, pw_start hU hW hPc hK hDc hN⟩⟩ rfl rfl hl.1 rfl (lv_room (Nat.le_of_ble_eq_true rfl)) dX0_learn_37 ⟨Nat.le_of_ble_eq_true rfl, Nat.le_of_ble_eq_true rfl⟩) hS (fun q _ h => hFc q h) hFc (fun r_24 u t H1 locs ht hvm hw hB hz1 hk1 hS => ?_)
          obtain ⟨f, hX0, hP1, hK1, hD1⟩ := hB
          have hE := bd_at rfl hE
          have hE := bd_at hX0 hE
          have hE := bd_at hw.2 hE
          rw [ht] at hP1
          obtain ⟨hP, hD⟩ := va_joinQ (wr := [(h0, boC h1 h3 bv), (h3, mkC h4), (h4, .inl (cJ, 4, .inr (.inl g)))]) (w1 := [(h1, mkC h2), (h2, .inl (cJ, 4, .inr (.inl f)))]) hP hD [1, 2] [0, 3, 4] rfl rfl (by decide) (by decide) hk1 hFc hP1 hD1
          generalize H1 = H at hP hS ⊢
          have hP : va_P D vwCl ([(h0, boC h1 h3 bv), (h3, mkC h4), (h4, .inl (cJ, 4, .inr (.inl g))), (h1, mkC h2), (h2, .inl (cJ, 4, .inr (.inl f)))] ++ va_pl L (pf cJ kd pi bd af bo)) H := hP
          have hD : va_D A ([(h0, boC h1 h3 bv), (h3, mkC h4), (h4, .inl (cJ, 4, .inr (.inl g))), (h1, mkC h2), (h2, .inl (cJ, 4, .inr (.inl f)))] ++ va_pl L (pf cJ kd pi bd af bo)) := hD
          refine W.widen (k := 0) (n := 0) (Nat.le_of_ble_eq_true rfl) (Nat.le_of_ble_eq_true rfl) ?_
          have hr_24 := hw.1
          refine lv_if_ne (tgt := 80) hx hb dX0_learn_40 (by decide) (fun c_27 => ?_) (fun c_27 => ?_)
          · have hE := hE.trans (if_neg c_27)
            rw [hQP]
            have hP9 : va_P D vwCl ([(h0, boC h1 h3 bv), (h1, mkC h2), (h2, .inl (cJ, 4, .inr (.inl f))), (h3, mkC h4), (h4, .inl (cJ, 4, .inr (.inl g)))] ++ va_pl L (pf cJ kd pi bd af bo)) _ := hP.part [0, 3, 4, 1, 2] rfl
            have hD9 : va_D A ([(h0, boC h1 h3 bv), (h1, mkC h2), (h2, .inl (cJ, 4, .inr (.inl f))), (h3, mkC h4), (h4, .inl (cJ, 4, .inr (.inl g)))] ++ va_pl L (pf cJ kd pi bd af bo)) := hD.part [0, 3, 4, 1, 2] (by decide) rfl
            exact W.vret hx hb hr (fun t ht hW => ⟨⟨(), rfl, trivial, ⟨bv, f, g, ⟨(by rw [← hRES, hE]), (by rw [← hRES, hE]), (by rw [← hRES, hE])⟩, by rw [ht]; exact hP9, va_K.moved hW.alike hK, hD9⟩⟩, hS.F ht⟩) hS.2.2 dX0_learn_80
          · have hE := hE.trans (if_pos c_27)
            refine lv_aload_n hx hb dX0_learn_43 rfl (lv_at hl 0 rfl) ?_
            refine va_get (D := D) (ci := 0) (v := .ref h1) (C := RX0) (T := TX0) (N := 4) hx hb ha inlX0 hown hK hP 0 rfl rfl 0 (by decide) (ha _ kf_X0_12) (fun _ h9 => h9) rfl dX0_learn_44 ?_
            refine lv_iload hx hb dX0_learn_47 (lv_at hl 5 rfl) ?_
            have hPc := hP.sub (ws' := [(h1, mkC h2), (h2, .inl (cJ, 4, .inr (.inl f)))]) [3, 4] rfl
            have hDc := hD.sub (ws' := [(h1, mkC h2), (h2, .inl (cJ, 4, .inr (.inl f)))]) [3, 4] (by decide) rfl
            have hFc := va_free (wc := [(h1, mkC h2), (h2, .inl (cJ, 4, .inr (.inl f)))]) hD hS hA [3, 4] rfl
            refine va_calli (va_runV (As := [.int i5]) (rest := []) ⟨hx, hb, hml, hown, ha⟩ (s_has l D cI cJ cZ cO _ h1 h2 f i5) (cwV 1 ha (gaV kl_X0_36 km_X4_has ks_X4_has kz_X4 kd_X4_has) rfl rfl rfl (by decide +kernel) ⟨Nat.le_of_ble_eq_true rfl, Nat.le_of_ble_eq_true rfl⟩) ⟨pw_blind, va_recv hK hPc (ci := 4) (q0 := 0) rfl rfl, fun U hU hW => ⟨rfl, pw_start hU hW hPc hK hDc hN⟩⟩ rfl rfl hl.1 rfl (lv_room (Nat.le_of_ble_eq_true rfl)) dX0_learn_49 ⟨Nat.le_of_ble_eq_true rfl, Nat.le_of_ble_eq_true rfl⟩) hS (fun q _ h => hFc q h) hFc (fun r_28 u t H1 locs ht hvm hw hB hz1 hk1 hS => ?_)
            obtain ⟨f, hX0, hP1, hK1, hD1⟩ := hB
            have hE := bd_at rfl hE
            have hE := bd_at hX0 hE
            have hE := bd_at hw.2 hE
            rw [ht] at hP1
            obtain ⟨hP, hD⟩ := va_joinQ (wr := [(h0, boC h1 h3 bv), (h3, mkC h4), (h4, .inl (cJ, 4, .inr (.inl g)))]) (w1 := [(h1, mkC h2), (h2, .inl (cJ, 4, .inr (.inl f)))]) hP hD [3, 4] [0, 1, 2] rfl rfl (by decide) (by decide) hk1 hFc hP1 hD1
            generalize H1 = H at hP hS ⊢
            have hP : va_P D vwCl ([(h0, boC h1 h3 bv), (h3, mkC h4), (h4, .inl (cJ, 4, .inr (.inl g))), (h1, mkC h2), (h2, .inl (cJ, 4, .inr (.inl f)))] ++ va_pl L (pf cJ kd pi bd af bo)) H := hP
            have hD : va_D A ([(h0, boC h1 h3 bv), (h3, mkC h4), (h4, .inl (cJ, 4, .inr (.inl g))), (h1, mkC h2), (h2, .inl (cJ, 4, .inr (.inl f)))] ++ va_pl L (pf cJ kd pi bd af bo)) := hD
            refine W.widen (k := 0) (n := 0) (Nat.le_of_ble_eq_true rfl) (Nat.le_of_ble_eq_true rfl) ?_
            have hr_28 := hw.1
            refine lv_if_eq (tgt := 74) hx hb dX0_learn_52 (by decide) (fun c_31 => ?_) (fun c_31 => ?_)
            · have hE := hE.trans (if_pos c_31)
              exact J_74 bv f g _ _ (hP.part (X := [(h0, boC h1 h3 bv), (h3, mkC h4), (h4, .inl (cJ, 4, .inr (.inl g))), (h1, mkC h2), (h2, .inl (cJ, 4, .inr (.inl f)))]) (cx := [(h0, boC h1 h3 bv), (h1, mkC h2), (h2, .inl (cJ, 4, .inr (.inl f))), (h3, mkC h4), (h4, .inl (cJ, 4, .inr (.inl g)))]) (pl := va_pl L (pf cJ kd pi bd af bo)) [0, 3, 4, 1, 2] rfl) (hD.part (X := [(h0, boC h1 h3 bv), (h3, mkC h4), (h4, .inl (cJ, 4, .inr (.inl g))), (h1, mkC h2), (h2, .inl (cJ, 4, .inr (.inl f)))]) (cx := [(h0, boC h1 h3 bv), (h1, mkC h2), (h2, .inl (cJ, 4, .inr (.inl f))), (h3, mkC h4), (h4, .inl (cJ, 4, .inr (.inl g)))]) (pl := va_pl L (pf cJ kd pi bd af bo)) [0, 3, 4, 1, 2] (by decide) rfl) hS i2 i3 i4 i5 _ (lv_sub hl [0, 1, 2, 3, 4, 5] rfl) hE (Nat.lt_of_lt_of_le (sw_dn c_22 rfl) (Nat.le_of_lt_succ hm_21))
            · have hE := hE.trans (if_neg c_31)
              obtain ⟨x_32, ex_32⟩ : ∃ y : Int32, y = i4 + 1 := ⟨_, rfl⟩
              have hE := bd_at ex_32 hE
              refine lv_iinc (v := x_32) (lv' := [(4, .int x_32), (0, .ref h0), (1, .ref w), (2, .int i2), (3, .int i3), (5, .int i5)]) hx hb dX0_learn_55 hl (k := 4) rfl (by rw [ex_32]; rfl) (by decide) rfl (fun ls hl => ?_)
              refine lv_aload_n hx hb dX0_learn_58 rfl (lv_at hl 1 rfl) ?_
              refine lv_iload hx hb dX0_learn_59 (lv_at hl 0 rfl) ?_
              refine lv_iconst (v := 3) hx hb dX0_learn_61 (by decide) ?_
              refine lv_icmp_ne (tgt := 70) hx hb dX0_learn_62 (by decide) (fun c_33 => ?_) (fun c_33 => ?_)
              · have hE := hE.trans (if_neg c_33)
                refine lv_iconst (v := 0) hx hb dX0_learn_70 (by decide) ?_
                exact J_71 bv f g _ _ (hP.part (X := [(h0, boC h1 h3 bv), (h3, mkC h4), (h4, .inl (cJ, 4, .inr (.inl g))), (h1, mkC h2), (h2, .inl (cJ, 4, .inr (.inl f)))]) (cx := [(h0, boC h1 h3 bv), (h1, mkC h2), (h2, .inl (cJ, 4, .inr (.inl f))), (h3, mkC h4), (h4, .inl (cJ, 4, .inr (.inl g)))]) (pl := va_pl L (pf cJ kd pi bd af bo)) [0, 3, 4, 1, 2] rfl) (hD.part (X := [(h0, boC h1 h3 bv), (h3, mkC h4), (h4, .inl (cJ, 4, .inr (.inl g))), (h1, mkC h2), (h2, .inl (cJ, 4, .inr (.inl f)))]) (cx := [(h0, boC h1 h3 bv), (h1, mkC h2), (h2, .inl (cJ, 4, .inr (.inl f))), (h3, mkC h4), (h4, .inl (cJ, 4, .inr (.inl g)))]) (pl := va_pl L (pf cJ kd pi bd af bo)) [0, 3, 4, 1, 2] (by decide) rfl) hS i2 i3 x_32 i5 0 _ (lv_sub hl [1, 2, 3, 4, 0, 5] rfl) hE (Nat.lt_of_lt_of_le (sw_dn c_22 rfl) (Nat.le_of_lt_succ hm_21))
              · have hE := hE.trans (if_pos c_33)
                refine lv_iload hx hb dX0_learn_65 (lv_at hl 5 rfl) ?_
                refine lv_goto (tgt := 71) hx hb dX0_learn_67 (by decide) ?_
                exact J_71 bv f g _ _ (hP.part (X := [(h0, boC h1 h3 bv), (h3, mkC h4), (h4, .inl (cJ, 4, .inr (.inl g))), (h1, mkC h2), (h2, .inl (cJ, 4, .inr (.inl f)))]) (cx := [(h0, boC h1 h3 bv), (h1, mkC h2), (h2, .inl (cJ, 4, .inr (.inl f))), (h3, mkC h4), (h4, .inl (cJ, 4, .inr (.inl g)))]) (pl := va_pl L (pf cJ kd pi bd af bo)) [0, 3, 4, 1, 2] rfl) (hD.part (X := [(h0, boC h1 h3 bv), (h3, mkC h4), (h4, .inl (cJ, 4, .inr (.inl g))), (h1, mkC h2), (h2, .inl (cJ, 4, .inr (.inl f)))]) (cx := [(h0, boC h1 h3 bv), (h1, mkC h2), (h2, .inl (cJ, 4, .inr (.inl f))), (h3, mkC h4), (h4, .inl (cJ, 4, .inr (.inl g)))]) (pl := va_pl L (pf cJ kd pi bd af bo)) [0, 3, 4, 1, 2] (by decide) rfl) hS i2 i3 x_32 i5 i5 _ (lv_sub hl [1, 2, 3, 4, 0, 5] rfl) hE (Nat.lt_of_lt_of_le (sw_dn c_22 rfl) (Nat.le_of_lt_succ hm_21))
  rw [hQP] at L_21
  -- from the entry
  have hE := hRES
  unfold xc_blearnP at hE
  refine lv_aload_n hx hb dX0_learn_0 rfl (lv_at hl 0 rfl) ?_
  refine va_get (D := D) (ci := 0) (v := .ref h1) (C := RX0) (T := TX0) (N := 4) hx hb ha inlX0 hown hK hP 0 rfl rfl 0 (by decide) (ha _ kf_X0_12) (fun _ h9 => h9) rfl dX0_learn_1 ?_
  refine lv_aload_n hx hb dX0_learn_4 rfl (lv_at hl 1 rfl) ?_
  have hPc := hP.part (X := [(h0, boC h1 h3 bv), (h1, mkC h2), (h2, .inl (cJ, 4, .inr (.inl f))), (h3, mkC h4), (h4, .inl (cJ, 4, .inr (.inl g)))]) (cx := [(h1, mkC h2), (h2, .inl (cJ, 4, .inr (.inl f)))]) (pl := va_pl L (pf cJ kd pi bd af bo)) [1, 2] rfl
  have hDc := hD.part (X := [(h0, boC h1 h3 bv), (h1, mkC h2), (h2, .inl (cJ, 4, .inr (.inl f))), (h3, mkC h4), (h4, .inl (cJ, 4, .inr (.inl g)))]) (cx := [(h1, mkC h2), (h2, .inl (cJ, 4, .inr (.inl f)))]) (pl := va_pl L (pf cJ kd pi bd af bo)) [1, 2] (by decide) rfl
  have hFc := va_freeP (X := [(h0, boC h1 h3 bv), (h1, mkC h2), (h2, .inl (cJ, 4, .inr (.inl f))), (h3, mkC h4), (h4, .inl (cJ, 4, .inr (.inl g)))]) (cx := [(h1, mkC h2), (h2, .inl (cJ, 4, .inr (.inl f)))]) (pl := va_pl L (pf cJ kd pi bd af bo)) hD hS hA [1, 2] rfl
  refine va_callv (va_runV (As := [.ref w]) (rest := []) ⟨hx, hb, hml, hown, ha⟩ (s_readFromP l D cI cJ cZ cO _ h1 h2 w f L kd pi bd af bo m_w k_w) (cwV 1 ha (gaV kl_X0_25 km_X4_readFrom ks_X4_readFrom kz_X4 kd_X4_readFrom) rfl rfl rfl (by decide +kernel) ⟨Nat.le_of_ble_eq_true rfl, Nat.le_of_ble_eq_true rfl⟩) ⟨pw_blind, va_recv hK hPc (ci := 4) (q0 := 0) rfl rfl, fun U hU hW => ⟨rfl, pw_start hU hW hPc hK hDc hN⟩⟩ rfl rfl hl.1 rfl (lv_room (Nat.le_of_ble_eq_true rfl)) dX0_learn_5 ⟨Nat.le_of_ble_eq_true rfl, Nat.le_of_ble_eq_true rfl⟩) hS (fun q _ h => hFc q h) hFc (fun u t H1 locs ht hvm hw hB hz1 hk1 hS => ?_)
  obtain ⟨f, hX0, hP1, hK1, hD1⟩ := hB
  have hE := bd_at rfl hE
  have hE := bd_at hX0 hE
  rw [ht] at hP1
  obtain ⟨hP, hD⟩ := va_joinP (wr := [(h0, boC h1 h3 bv), (h3, mkC h4), (h4, .inl (cJ, 4, .inr (.inl g)))]) (rx := [(h1, mkC h2), (h2, .inl (cJ, 4, .inr (.inl f)))]) (pl1 := va_pl L (pf cJ kd pi bd af bo)) hP hD [1, 2] [0, 3, 4] rfl rfl (by decide) (by decide) hk1 hFc hP1 hD1
  generalize H1 = H at hP hS ⊢
  have hP : va_P D vwCl ([(h0, boC h1 h3 bv), (h3, mkC h4), (h4, .inl (cJ, 4, .inr (.inl g))), (h1, mkC h2), (h2, .inl (cJ, 4, .inr (.inl f)))] ++ va_pl L (pf cJ kd pi bd af bo)) H := hP
  have hD : va_D A ([(h0, boC h1 h3 bv), (h3, mkC h4), (h4, .inl (cJ, 4, .inr (.inl g))), (h1, mkC h2), (h2, .inl (cJ, 4, .inr (.inl f)))] ++ va_pl L (pf cJ kd pi bd af bo)) := hD
  refine W.widen (k := 0) (n := 0) (Nat.le_of_ble_eq_true rfl) (Nat.le_of_ble_eq_true rfl) ?_
  refine lv_aload_n hx hb dX0_learn_8 rfl (lv_at hl 0 rfl) ?_
  refine lv_iconst (v := 0) hx hb dX0_learn_9 (by decide) ?_
  refine va_put (D := D) (ci := 0) (v := .int 0) (ty := .int) (C := RX0) (T := TX0) (N := 4) hx hb ha inlX0 tyX0 tyX0_ok nmX0 hown hK hP hD hS 0 rfl rfl 2 (by decide) (ha _ kf_X0_29) (fun _ h9 => h9) rfl (by decide +kernel) rfl rfl (Nat.le_of_ble_eq_true rfl) dX0_learn_10 (fun H locs hP hD hS => ?_)
  have hP : va_P D vwCl ([(h0, boC h1 h3 (upd bv 2 0)), (h3, mkC h4), (h4, .inl (cJ, 4, .inr (.inl g))), (h1, mkC h2), (h2, .inl (cJ, 4, .inr (.inl f)))] ++ va_pl L (pf cJ kd pi bd af bo)) H := hP
  have hD : va_D A ([(h0, boC h1 h3 (upd bv 2 0)), (h3, mkC h4), (h4, .inl (cJ, 4, .inr (.inl g))), (h1, mkC h2), (h2, .inl (cJ, 4, .inr (.inl f)))] ++ va_pl L (pf cJ kd pi bd af bo)) := hD
  generalize hg_37 : upd bv 2 0 = bv at hP hD
  have hE := bs_at hg_37 hE
  refine lv_iconst (v := 0) hx hb dX0_learn_13 (by decide) ?_
  refine lv_istore (lv' := [(4, .int 0), (0, .ref h0), (1, .ref w), (2, .int n1), (3, .int n2)]) hx hb dX0_learn_14 hl (by decide) rfl (fun ls hl => ?_)
  refine lv_iload_n hx hb dX0_learn_16 rfl (lv_at hl 4 rfl) ?_
  refine lv_iconst (v := 1) hx hb dX0_learn_17 (by decide) ?_
  refine lv_isub hx hb dX0_learn_18 ?_
  refine lv_topi (fun x_38 ex_38 => ?_)
  have hE := bd_at ex_38 hE
  refine lv_istore (lv' := [(5, .int x_38), (4, .int 0), (0, .ref h0), (1, .ref w), (2, .int n1), (3, .int n2)]) hx hb dX0_learn_19 hl (by decide) rfl (fun ls hl => ?_)
  exact L_21 ((x_38.toInt - n1.toInt).toNat + 1) bv f g _ _ (hP.part (X := [(h0, boC h1 h3 bv), (h3, mkC h4), (h4, .inl (cJ, 4, .inr (.inl g))), (h1, mkC h2), (h2, .inl (cJ, 4, .inr (.inl f)))]) (cx := [(h0, boC h1 h3 bv), (h1, mkC h2), (h2, .inl (cJ, 4, .inr (.inl f))), (h3, mkC h4), (h4, .inl (cJ, 4, .inr (.inl g)))]) (pl := va_pl L (pf cJ kd pi bd af bo)) [0, 3, 4, 1, 2] rfl) (hD.part (X := [(h0, boC h1 h3 bv), (h3, mkC h4), (h4, .inl (cJ, 4, .inr (.inl g))), (h1, mkC h2), (h2, .inl (cJ, 4, .inr (.inl f)))]) (cx := [(h0, boC h1 h3 bv), (h1, mkC h2), (h2, .inl (cJ, 4, .inr (.inl f))), (h3, mkC h4), (h4, .inl (cJ, 4, .inr (.inl g)))]) (pl := va_pl L (pf cJ kd pi bd af bo)) [0, 3, 4, 1, 2] (by decide) rfl) hS n1 n2 0 x_38 _ (lv_sub hl [2, 3, 4, 5, 1, 0] rfl) hE (Nat.lt_succ_self _)
