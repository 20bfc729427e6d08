theorem va_freeW {A0 : Nat → Prop} {ws : va_W} {H0 H : Heap} {locs : List Loc} (hD : va_D A0 ws) (hS : va_S A0 H0 H locs) (hA : ∀ q, H0.size ≤ q → A0 q) : ∀ q, va_A ws H.size q → A0 q := by
  intro q h
  rcases h with ⟨k, e, h⟩ | h
  · exact hD.2 k (q, e) h
  · exact hA q (Nat.le_trans hS.1 h)
theorem va_keep0 {D : va_G} {cl : List vw_C} {ws : va_W} {H H1 : Heap} (hP : va_P D cl ws H) (hk : ∀ q : Nat, q < H.size → ¬ va_A [] H.size q → H1[q]? = H[q]?) : va_P D cl ws H1 := fun k q h => (hP k q h).kept (hk q.1 (hP k q h).lt (fun w => by
  rcases w with ⟨j, e, w⟩ | w
  · simp at w
  · have := (hP k q h).lt
    omega))
theorem wi_ti {n lo hi : Int32} (h : ¬ wi n lo hi = 0) : lo.toInt ≤ n.toInt ∧ n.toInt ≤ hi.toInt := ⟨Int32.le_iff_toInt_le.mp (wi_in h).1, Int32.le_iff_toInt_le.mp (wi_in h).2⟩
theorem sub_of {a b : List Nat} (h : ∀ x ∈ a, x ∈ b) (k : Nat) : k ∈ a → k ∈ b := h k
abbrev XT : Type := (Nat → Int32) × (Nat → Nat → Int32) × Int32
def bd {α β : Type} (a : α) (k : α → β) : β := k a
def bc {β : Type} (t : XT) (k : (Nat → Int32) → (Nat → Nat → Int32) → Int32 → β) : β := k t.1 t.2.1 t.2.2
def bo {β : Type} (t : Option XT) (k : (Nat → Int32) → (Nat → Nat → Int32) → Int32 → Option β) : Option β := match t with
  | none => none
  | some x => k x.1 x.2.1 x.2.2
noncomputable def ax {β : Type} (P : Prop) (t : Option β) : Option β := @ite _ P (Classical.propDecidable P) t none
theorem bd_at {α β : Type} {a x : α} {R : β} {k : α → β} (e : x = a) (h : R = bd a k) : R = k x := by
  subst e; exact h
theorem bs_at {α β : Type} {a x : α} {R : β} {k : α → β} (e : a = x) (h : R = bd a k) : R = k x := by
  subst e; exact h
theorem bc_at {β : Type} {t : XT} {R : β} {k : (Nat → Int32) → (Nat → Nat → Int32) → Int32 → β} {m : Nat → Int32} {a : Nat → Nat → Int32} {r : Int32} (h1 : m = t.1) (h2 : a = t.2.1) (h3 : r = t.2.2) (h : R = bc t k) : R = k m a r := by
  subst h1 h2 h3; exact h
theorem bo_at {β : Type} {t : Option XT} {R : Option β} {k : (Nat → Int32) → (Nat → Nat → Int32) → Int32 → Option β} {m : Nat → Int32} {a : Nat → Nat → Int32} {r : Int32} (h1 : t = some (m, a, r)) (h : R = bo t k) : R = k m a r := by
  subst h1; exact h
theorem ax_at {β : Type} {P : Prop} {R t : Option β} (h : P) (hE : R = ax P t) : R = t := by
  unfold ax at hE; rw [if_pos h] at hE; exact hE
theorem bc_atv {β : Type} {t : XT} {R : β} {k : (Nat → Int32) → (Nat → Nat → Int32) → Int32 → β} {m : Nat → Int32} {a : Nat → Nat → Int32} (h1 : m = t.1) (h2 : a = t.2.1) (h : R = bc t k) : R = k m a t.2.2 := by
  subst h1 h2; exact h

set_option maxRecDepth 100000 in
def x_isFlow (f : Int32) (mi : Nat → Int32) (ma : Nat → Nat → Int32) : XT := (if f < (0 : Int32) then (mi, ma, (0 : Int32)) else bd (mi 32) (fun v1 => (if v1 ≤ f then (mi, ma, (0 : Int32)) else (mi, ma, (1 : Int32)))))
set_option maxHeartbeats 4000000 in
set_option maxRecDepth 100000 in
theorem m_isFlow (l : Launch) (D : va_G) (cI cJ cZ cO : ClassId) (sz : Nat) (h0 : Nat) (mq : Nat → Nat) (mi : Nat → Int32) (ma : Nat → Nat → Int32) (ph : Nat) (cl : Int) (f : Int32) (hI : MB mi ma) : Met l yX11_isFlow (wa yX11_isFlow cX11_isFlow 2 (some .boolean)) ({ frames := 0, cells := 0, slots := 0, locals := 0 }) (va_Pc [.ref h0, .int f] (pw_s D cI cJ cZ cO sz (mw cI cZ h0 mq mi ma))) (va_Qi (fun (r : Int32) (_ : Unit) => ((((r = 0 ∨ r = 1) ∧ (¬ r = 0 → 0 ≤ f.toInt ∧ f.toInt < (mi 32).toInt ∧ f.toInt < 4))) ∧ r = (x_isFlow f mi ma).2.2)) (fun (_ : Unit) (t : State) => ∃ (mi2 : Nat → Int32) (ma2 : Nat → Nat → Int32), ((MB mi2 ma2 ∧ (∀ k, k ∉ ([] : List Nat) → mi2 k = mi k) ∧ (∀ k, k ∉ ([] : List Nat) → ma2 k = ma k)) ∧ mi2 = (x_isFlow f mi ma).1 ∧ ma2 = (x_isFlow f mi ma).2.1) ∧ pw_t D cI cJ cZ cO (va_A (mw cI cZ h0 mq mi ma) sz) (mw cI cZ h0 mq mi2 ma2) t) (va_A (mw cI cZ h0 mq mi ma) sz)) 0 0 (va_A (mw cI cZ h0 mq mi ma) sz) := by
  refine Met.ofW (cc := cX11_isFlow) (maxL := 2) (ret := (some .boolean)) (by decide) rfl ?_
  intro p e s m args below meth c s₁ B hml hv
  obtain ⟨rfl, hsz, hP, hK, hD0, hN⟩ := hv
  have hx := B.exec
  have hb := B.bytes
  have hr := B.returns
  have hts := atoms_spec (ws := (wa yX11_isFlow cX11_isFlow 2 (some .boolean))) B.pre
  have ha : ∀ w ∈ wsL_law, w.before _ s = true := fun w h => hts w (List.mem_cons_of_mem _ h)
  have hown : s.vm.findClass RX11 = some m.cls := findClass_of_methodNamed B.named
  have hlocks := B.notSynchronized
  subst hsz
  have hD := hD0.self (sz := s.heap.size)
  generalize hAe : va_A (mw cI cZ h0 mq mi ma) s.heap.size = A at hD ⊢
  have hA : ∀ q : Nat, s.heap.size ≤ q → A q := fun q h => by rw [← hAe]; exact Or.inr h
  have hS : va_S A s.heap s.heap [] := va_S.rf
  have hP : va_P D vwCl (mw cI cZ h0 mq mi ma) s.heap := hP
  have hl := lv_entry ([.ref h0, .int f]) (n := 2) (Nat.le_of_ble_eq_true rfl)
  rw [lg_entry_eq]
  generalize (lg_sl ([.ref h0, .int f]) ++ List.replicate (2 - (lg_sl ([.ref h0, .int f])).length) Slot.unset).toArray = ls at hl ⊢
  have hl : lv_has ls 2 [(0, .ref h0), (1, .int f)] := hl
  have kc_m1 := tk_m1
  have kc_0 := tk_0
  have kc_1 := tk_1
  obtain ⟨mi0, hmi0⟩ : ∃ y, y = mi := ⟨_, rfl⟩
  obtain ⟨ma0, hma0⟩ : ∃ y, y = ma := ⟨_, rfl⟩
  have hFI : ∀ k, k ∉ ([] : List Nat) → mi k = mi0 k := fun k _ => by rw [hmi0]
  have hFA : ∀ k, k ∉ ([] : List Nat) → ma k = ma0 k := fun k _ => by rw [hma0]
  obtain ⟨QP, hQP⟩ : ∃ y : State → Prop, y = (MQ below (va_Qi (fun (r : Int32) (_ : Unit) => ((((r = 0 ∨ r = 1) ∧ (¬ r = 0 → 0 ≤ f.toInt ∧ f.toInt < (mi 32).toInt ∧ f.toInt < 4))) ∧ r = (x_isFlow f mi ma).2.2)) (fun (_ : Unit) (t : State) => ∃ (mi2 : Nat → Int32) (ma2 : Nat → Nat → Int32), ((MB mi2 ma2 ∧ (∀ k, k ∉ ([] : List Nat) → mi2 k = mi k) ∧ (∀ k, k ∉ ([] : List Nat) → ma2 k = ma k)) ∧ mi2 = (x_isFlow f mi ma).1 ∧ ma2 = (x_isFlow f mi ma).2.1) ∧ pw_t D cI cJ cZ cO A (mw cI cZ h0 mq mi2 ma2) t) A) #[(.ref h0 : Value), (.int f : Value)] s 0 0 A) := ⟨_, rfl⟩
  obtain ⟨RES, hRES⟩ : ∃ y, y = (x_isFlow f mi ma) := ⟨_, rfl⟩
  -- from the entry
  have hE := hRES
  unfold x_isFlow at hE
  refine lv_iload_n hx hb dX11_isFlow_0 rfl (lv_at hl 1 rfl) ?_
  refine lv_if_lt (tgt := 16) hx hb dX11_isFlow_1 (by decide) (fun c_1 => ?_) (fun c_1 => ?_)
  · have t_c_1 := Int32.lt_iff_toInt_lt.mp c_1
    have hE := hE.trans (if_pos c_1)
    refine lv_iconst (v := 0) hx hb dX11_isFlow_16 (by decide) ?_
    exact W.zret (v := 0) hx hb hr rfl (fun t ht hW => ⟨⟨0, (), rfl, ⟨⟨by decide, fun h9 => absurd rfl h9⟩, by rw [← hRES, hE]⟩, ⟨mi, ma, ⟨⟨hI, fun k hk => (hFI k hk).trans (by rw [hmi0]), fun k hk => (hFA k hk).trans (by rw [hma0])⟩, by rw [← hRES, hE], by rw [← hRES, hE]⟩, by rw [ht]; exact hP, va_K.moved hW.alike hK, hD⟩⟩, hS.F ht⟩) hS.2.2 dX11_isFlow_17
  · have t_c_1 := Int32.le_iff_toInt_le.mp (Int32.not_lt.mp c_1)
    have hE := hE.trans (if_neg c_1)
    refine lv_iload_n hx hb dX11_isFlow_4 rfl (lv_at hl 1 rfl) ?_
    refine lv_aload_n hx hb dX11_isFlow_5 rfl (lv_at hl 0 rfl) ?_
    refine va_get (D := D) (ci := 11) (v := .int (mi 32)) (C := RX11) (T := TX11) (N := 74) hx hb ha inlX11 hown hK hP 0 mw_at0 rfl 32 (by decide) (ha _ kf_X11_191) (fun _ h9 => h9) rfl dX11_isFlow_6 ?_
    refine lv_topi (fun x_2 ex_2 => ?_)
    have hE := bd_at ex_2 hE
    have u_x_2 := congrArg Int32.toInt ex_2
    have r_x_2 := MB_flows hI
    rw [← ex_2] at r_x_2
    refine lv_icmp_ge (tgt := 16) hx hb dX11_isFlow_9 (by decide) (fun c_3 => ?_) (fun c_3 => ?_)
    · have t_c_3 := Int32.le_iff_toInt_le.mp c_3
      have hE := hE.trans (if_pos c_3)
      refine lv_iconst (v := 0) hx hb dX11_isFlow_16 (by decide) ?_
      exact W.zret (v := 0) hx hb hr rfl (fun t ht hW => ⟨⟨0, (), rfl, ⟨⟨by decide, fun h9 => absurd rfl h9⟩, by rw [← hRES, hE]⟩, ⟨mi, ma, ⟨⟨hI, fun k hk => (hFI k hk).trans (by rw [hmi0]), fun k hk => (hFA k hk).trans (by rw [hma0])⟩, by rw [← hRES, hE], by rw [← hRES, hE]⟩, by rw [ht]; exact hP, va_K.moved hW.alike hK, hD⟩⟩, hS.F ht⟩) hS.2.2 dX11_isFlow_17
    · have t_c_3 := Int32.lt_iff_toInt_lt.mp (Int32.not_le.mp c_3)
      have hE := hE.trans (if_neg c_3)
      refine lv_iconst (v := 1) hx hb dX11_isFlow_12 (by decide) ?_
      refine lv_goto (tgt := 17) hx hb dX11_isFlow_13 (by decide) ?_
      exact W.zret (v := 1) hx hb hr rfl (fun t ht hW => ⟨⟨1, (), rfl, ⟨⟨by decide, fun h9 => ⟨by omega, by rw [← ex_2]; omega, by omega⟩⟩, by rw [← hRES, hE]⟩, ⟨mi, ma, ⟨⟨hI, fun k hk => (hFI k hk).trans (by rw [hmi0]), fun k hk => (hFA k hk).trans (by rw [hma0])⟩, by rw [← hRES, hE], by rw [← hRES, hE]⟩, by rw [ht]; exact hP, va_K.moved hW.alike hK, hD⟩⟩, hS.F ht⟩) hS.2.2 dX11_isFlow_17

set_option maxRecDepth 100000 in
def x_keptMany_4 (f : Int32) : Nat → (Nat → Int32) → (Nat → Nat → Int32) → Int32 → Int32 → XT
  | 0, mi, ma, _, _ => (mi, ma, 0)
  | fu + 1, mi, ma, i2, i3 => (if (200 : Int32) ≤ i3 then (mi, ma, i2) else bd ((200 : Int32) * f) (fun v1 => bd (v1 + i3) (fun v2 => bd (ma 36 v2.toNatClampNeg) (fun v3 => (if v3 = (0 : Int32) then bd (i2 + (0 : Int32)) (fun v4 => bd (i3 + 1) (fun v5 => x_keptMany_4 f fu mi ma v4 v5)) else bd (i2 + (1 : Int32)) (fun v6 => bd (i3 + 1) (fun v7 => x_keptMany_4 f fu mi ma v6 v7)))))))
set_option maxRecDepth 100000 in
def x_keptMany (f : Int32) (mi : Nat → Int32) (ma : Nat → Nat → Int32) : XT := x_keptMany_4 f 201 mi ma (0 : Int32) (0 : Int32)
set_option maxHeartbeats 4000000 in
set_option maxRecDepth 100000 in
theorem m_keptMany (l : Launch) (D : va_G) (cI cJ cZ cO : ClassId) (sz : Nat) (h0 : Nat) (mq : Nat → Nat) (mi : Nat → Int32) (ma : Nat → Nat → Int32) (ph : Nat) (cl : Int) (f : Int32) (hI : MB mi ma) (hf0 : 0 ≤ f.toInt) (hf4 : f.toInt < 4) : Met l yX11_keptMany (wa yX11_keptMany cX11_keptMany 4 (some .int)) ({ frames := 0, cells := 0, slots := 0, locals := 0 }) (va_Pc [.ref h0, .int f] (pw_s D cI cJ cZ cO sz (mw cI cZ h0 mq mi ma))) (va_Qi (fun (r : Int32) (_ : Unit) => ((True) ∧ r = (x_keptMany f mi ma).2.2)) (fun (_ : Unit) (t : State) => ∃ (mi2 : Nat → Int32) (ma2 : Nat → Nat → Int32), ((MB mi2 ma2 ∧ (∀ k, k ∉ ([] : List Nat) → mi2 k = mi k) ∧ (∀ k, k ∉ ([] : List Nat) → ma2 k = ma k)) ∧ mi2 = (x_keptMany f mi ma).1 ∧ ma2 = (x_keptMany f mi ma).2.1) ∧ pw_t D cI cJ cZ cO (va_A (mw cI cZ h0 mq mi ma) sz) (mw cI cZ h0 mq mi2 ma2) t) (va_A (mw cI cZ h0 mq mi ma) sz)) 0 0 (va_A (mw cI cZ h0 mq mi ma) sz) := by
  refine Met.ofW (cc := cX11_keptMany) (maxL := 4) (ret := (some .int)) (by decide) rfl ?_
  intro p e s m args below meth c s₁ B hml hv
  obtain ⟨rfl, hsz, hP, hK, hD0, hN⟩ := hv
  have hx := B.exec
  have hb := B.bytes
  have hr := B.returns
  have hts := atoms_spec (ws := (wa yX11_keptMany cX11_keptMany 4 (some .int))) B.pre
  have ha : ∀ w ∈ wsL_law, w.before _ s = true := fun w h => hts w (List.mem_cons_of_mem _ h)
  have hown : s.vm.findClass RX11 = some m.cls := findClass_of_methodNamed B.named
  have hlocks := B.notSynchronized
  subst hsz
  have hD := hD0.self (sz := s.heap.size)
  generalize hAe : va_A (mw cI cZ h0 mq mi ma) s.heap.size = A at hD ⊢
  have hA : ∀ q : Nat, s.heap.size ≤ q → A q := fun q h => by rw [← hAe]; exact Or.inr h
  have hS : va_S A s.heap s.heap [] := va_S.rf
  have hP : va_P D vwCl (mw cI cZ h0 mq mi ma) s.heap := hP
  have hl := lv_entry ([.ref h0, .int f]) (n := 4) (Nat.le_of_ble_eq_true rfl)
  rw [lg_entry_eq]
  generalize (lg_sl ([.ref h0, .int f]) ++ List.replicate (4 - (lg_sl ([.ref h0, .int f])).length) Slot.unset).toArray = ls at hl ⊢
  have hl : lv_has ls 4 [(0, .ref h0), (1, .int f)] := hl
  have kc_m1 := tk_m1
  have kc_0 := tk_0
  have kc_1 := tk_1
  have kc_200 := tk_200
  obtain ⟨mi0, hmi0⟩ : ∃ y, y = mi := ⟨_, rfl⟩
  obtain ⟨ma0, hma0⟩ : ∃ y, y = ma := ⟨_, rfl⟩
  have hFI : ∀ k, k ∉ ([] : List Nat) → mi k = mi0 k := fun k _ => by rw [hmi0]
  have hFA : ∀ k, k ∉ ([] : List Nat) → ma k = ma0 k := fun k _ => by rw [hma0]
  obtain ⟨QP, hQP⟩ : ∃ y : State → Prop, y = (MQ below (va_Qi (fun (r : Int32) (_ : Unit) => ((True) ∧ r = (x_keptMany f mi ma).2.2)) (fun (_ : Unit) (t : State) => ∃ (mi2 : Nat → Int32) (ma2 : Nat → Nat → Int32), ((MB mi2 ma2 ∧ (∀ k, k ∉ ([] : List Nat) → mi2 k = mi k) ∧ (∀ k, k ∉ ([] : List Nat) → ma2 k = ma k)) ∧ mi2 = (x_keptMany f mi ma).1 ∧ ma2 = (x_keptMany f mi ma).2.1) ∧ pw_t D cI cJ cZ cO A (mw cI cZ h0 mq mi2 ma2) t) A) #[(.ref h0 : Value), (.int f : Value)] s 0 0 A) := ⟨_, rfl⟩
  obtain ⟨RES, hRES⟩ : ∃ y, y = (x_keptMany f mi ma) := ⟨_, rfl⟩
  have hfN : f.toNatClampNeg < 4 := in_lt (vpi_of (n := 4) hf0 (by omega))
  have hle := MB_le2n hI f.toNatClampNeg hfN
  have hlh := MB_le2h hI f.toNatClampNeg hfN
  have J_4 : ∀ (n_4 : Nat), ∀ (mi : Nat → Int32) (ma : Nat → Nat → Int32) (i2 : Int32) (i3 : Int32) (H : Heap) (locs : List Loc), va_P D vwCl (mw cI cZ h0 mq mi ma) H → va_D A (mw cI cZ h0 mq mi ma) → va_S A s.heap H locs → MB mi ma → (∀ k, k ∉ ([] : List Nat) → mi k = mi0 k) → (∀ k, k ∉ ([] : List Nat) → ma k = ma0 k) → RES = x_keptMany_4 f n_4 mi ma i2 i3 → 0 ≤ i3.toInt → ∀ (ls : Array Slot), lv_has ls 4 [(0, .ref h0), (1, .int f), (2, .int i2), (3, .int i3)] → ((200 - i3.toInt).toNat) < n_4 → W p l e ({ frames := 0, cells := 0, slots := 0, locals := 0 }) s m #[(.ref h0 : Value), (.int f : Value)] below meth c H locs 0 0 QP (F0 m 4 ls []) := by
    intro n_4
    induction n_4 with
    | zero => intros; exact absurd ‹_ < 0› (Nat.not_lt_zero _)
    | succ n_4 ih_4 =>
      intro mi ma i2 i3 H locs hP hD hS hI hFI hFA hE hv ls hl hm
      have hfN : f.toNatClampNeg < 4 := in_lt (vpi_of (n := 4) hf0 (by omega))
      have hle := MB_le2n hI f.toNatClampNeg hfN
      have hlh := MB_le2h hI f.toNatClampNeg hfN
      rw [x_keptMany_4] at hE
      refine lv_iload_n hx hb dX11_keptMany_4 rfl (lv_at hl 3 rfl) ?_
      refine lv_sipush (v := 200) hx hb dX11_keptMany_5 (by decide) ?_
      refine lv_icmp_ge (tgt := 40) hx hb dX11_keptMany_8 (by decide) (fun c_1 => ?_) (fun c_1 => ?_)
      · have t_c_1 := Int32.le_iff_toInt_le.mp c_1
        have hE := hE.trans (if_pos c_1)
        refine lv_iload_n hx hb dX11_keptMany_40 rfl (lv_at hl 2 rfl) ?_
        rw [hQP]
        exact W.iret (v := i2) hx hb hr (fun t ht hW => ⟨⟨i2, (), rfl, ⟨trivial, by rw [← hRES, hE]⟩, ⟨mi, ma, ⟨⟨hI, fun k hk => (hFI k hk).trans (by rw [hmi0]), fun k hk => (hFA k hk).trans (by rw [hma0])⟩, by rw [← hRES, hE], by rw [← hRES, hE]⟩, by rw [ht]; exact hP, va_K.moved hW.alike hK, hD⟩⟩, hS.F ht⟩) hS.2.2 dX11_keptMany_41
      · have t_c_1 := Int32.lt_iff_toInt_lt.mp (Int32.not_le.mp c_1)
        have hE := hE.trans (if_neg c_1)
        refine lv_iload_n hx hb dX11_keptMany_11 rfl (lv_at hl 2 rfl) ?_
        refine lv_aload_n hx hb dX11_keptMany_12 rfl (lv_at hl 0 rfl) ?_
        refine va_get (D := D) (ci := 11) (v := .ref (mq 36)) (C := RX11) (T := TX11) (N := 74) hx hb ha inlX11 hown hK hP 0 mw_at0 rfl 36 (by decide) (ha _ kf_X11_76) (fun _ h9 => h9) rfl dX11_keptMany_13 ?_
        refine lv_sipush (v := 200) hx hb dX11_keptMany_16 (by decide) ?_
        refine lv_iload_n hx hb dX11_keptMany_19 rfl (lv_at hl 1 rfl) ?_
        refine lv_imul hx hb dX11_keptMany_20 ?_
        refine lv_topi (fun x_2 ex_2 => ?_)
        have hE := bd_at ex_2 hE
        try have t_x_2 := ti_mulc (k := 200) ex_2 tk_200 (by omega) (by omega)
        refine lv_iload_n hx hb dX11_keptMany_21 rfl (lv_at hl 3 rfl) ?_
        refine lv_iadd hx hb dX11_keptMany_22 ?_
        refine lv_topi (fun x_3 ex_3 => ?_)
        have hE := bd_at ex_3 hE
        try have t_x_3 := ti_add ex_3 (by omega) (by omega)
        have hin_4 : vp_in x_3 800 := vpi_of (by omega) (by omega)
        refine va_zald hx hb hK hP 18 2 mw_at36 rfl hin_4 dX11_keptMany_23 ?_
        refine lv_topi (fun x_5 ex_5 => ?_)
        have hE := bd_at ex_5 hE
        have u_x_5 := congrArg Int32.toInt ex_5
        refine lv_if_eq (tgt := 31) hx hb dX11_keptMany_24 (by decide) (fun c_6 => ?_) (fun c_6 => ?_)
        · have t_c_6 := congrArg Int32.toInt c_6
          have hE := hE.trans (if_pos c_6)
          refine lv_iconst (v := 0) hx hb dX11_keptMany_31 (by decide) ?_
          refine lv_iadd hx hb dX11_keptMany_32 ?_
          refine lv_topi (fun x_7 ex_7 => ?_)
          have hE := bd_at ex_7 hE
          refine lv_istore_n (lv' := [(2, .int x_7), (0, .ref h0), (1, .int f), (3, .int i3)]) hx hb dX11_keptMany_33 rfl hl (by decide) rfl (fun ls hl => ?_)
          obtain ⟨x_8, ex_8⟩ : ∃ y : Int32, y = i3 + 1 := ⟨_, rfl⟩
          have hE := bd_at ex_8 hE
          refine lv_iinc (v := x_8) (lv' := [(3, .int x_8), (2, .int x_7), (0, .ref h0), (1, .int f)]) hx hb dX11_keptMany_34 hl (k := 3) rfl (by rw [ex_8]; rfl) (by decide) rfl (fun ls hl => ?_)
          try have t_x_8 := ti_add ex_8 (by omega) (by omega)
          refine lv_goto (tgt := 4) hx hb dX11_keptMany_37 (by decide) ?_
          exact ih_4 mi ma x_7 x_8 _ _ hP hD hS hI hFI hFA hE (by omega) _ (lv_sub hl [2, 3, 1, 0] rfl) (by omega)
        · have t_c_6 := mt Int32.toInt_inj.mp c_6
          have hE := hE.trans (if_neg c_6)
          refine lv_iconst (v := 1) hx hb dX11_keptMany_27 (by decide) ?_
          refine lv_goto (tgt := 32) hx hb dX11_keptMany_28 (by decide) ?_
          refine lv_iadd hx hb dX11_keptMany_32 ?_
          refine lv_topi (fun x_9 ex_9 => ?_)
          have hE := bd_at ex_9 hE
          refine lv_istore_n (lv' := [(2, .int x_9), (0, .ref h0), (1, .int f), (3, .int i3)]) hx hb dX11_keptMany_33 rfl hl (by decide) rfl (fun ls hl => ?_)
          obtain ⟨x_10, ex_10⟩ : ∃ y : Int32, y = i3 + 1 := ⟨_, rfl⟩
          have hE := bd_at ex_10 hE
          refine lv_iinc (v := x_10) (lv' := [(3, .int x_10), (2, .int x_9), (0, .ref h0), (1, .int f)]) hx hb dX11_keptMany_34 hl (k := 3) rfl (by rw [ex_10]; rfl) (by decide) rfl (fun ls hl => ?_)
          try have t_x_10 := ti_add ex_10 (by omega) (by omega)
          refine lv_goto (tgt := 4) hx hb dX11_keptMany_37 (by decide) ?_
          exact ih_4 mi ma x_9 x_10 _ _ hP hD hS hI hFI hFA hE (by omega) _ (lv_sub hl [2, 3, 1, 0] rfl) (by omega)
  -- from the entry
  rw [hQP] at J_4
  have hE := hRES
  unfold x_keptMany at hE
  refine lv_iconst (v := 0) hx hb dX11_keptMany_0 (by decide) ?_
  refine lv_istore_n (lv' := [(2, .int 0), (0, .ref h0), (1, .int f)]) hx hb dX11_keptMany_1 rfl hl (by decide) rfl (fun ls hl => ?_)
  refine lv_iconst (v := 0) hx hb dX11_keptMany_2 (by decide) ?_
  refine lv_istore_n (lv' := [(3, .int 0), (2, .int 0), (0, .ref h0), (1, .int f)]) hx hb dX11_keptMany_3 rfl hl (by decide) rfl (fun ls hl => ?_)
  exact J_4 201 mi ma (0 : Int32) (0 : Int32) _ _ hP hD hS hI hFI hFA hE (by omega) _ (lv_sub hl [2, 3, 1, 0] rfl) (by omega)

set_option maxRecDepth 100000 in
def x_doubles (f : Int32) (mi : Nat → Int32) (ma : Nat → Nat → Int32) : XT := bd (ma 49 f.toNatClampNeg) (fun v1 => bd ((2 : Int32) * v1) (fun v2 => (if v2 ≤ (60000 : Int32) then bd (ma 49 f.toNatClampNeg) (fun v3 => bd ((2 : Int32) * v3) (fun v4 => bd (va_up ma 49 (upd (ma 49) f.toNatClampNeg v4)) (fun a5 => (mi, a5, 0)))) else bd (va_up ma 49 (upd (ma 49) f.toNatClampNeg (60000 : Int32))) (fun a6 => (mi, a6, 0)))))
set_option maxHeartbeats 4000000 in
set_option maxRecDepth 100000 in
theorem m_doubles (l : Launch) (D : va_G) (cI cJ cZ cO : ClassId) (sz : Nat) (h0 : Nat) (mq : Nat → Nat) (mi : Nat → Int32) (ma : Nat → Nat → Int32) (ph : Nat) (cl : Int) (f : Int32) (hI : MB mi ma) (hf0 : 0 ≤ f.toInt) (hf4 : f.toInt < 4) : Met l yX11_doubles (wa yX11_doubles cX11_doubles 2 none) ({ frames := 0, cells := 0, slots := 0, locals := 0 }) (va_Pc [.ref h0, .int f] (pw_s D cI cJ cZ cO sz (mw cI cZ h0 mq mi ma))) (va_Qv (fun (_ : Unit) => True) (fun (_ : Unit) (t : State) => ∃ (mi2 : Nat → Int32) (ma2 : Nat → Nat → Int32), ((MB mi2 ma2 ∧ (∀ k, k ∉ ([] : List Nat) → mi2 k = mi k) ∧ (∀ k, k ∉ ([49] : List Nat) → ma2 k = ma k)) ∧ mi2 = (x_doubles f mi ma).1 ∧ ma2 = (x_doubles f mi ma).2.1) ∧ pw_t D cI cJ cZ cO (va_A (mw cI cZ h0 mq mi ma) sz) (mw cI cZ h0 mq mi2 ma2) t) (va_A (mw cI cZ h0 mq mi ma) sz)) 0 0 (va_A (mw cI cZ h0 mq mi ma) sz) := by
  refine Met.ofW (cc := cX11_doubles) (maxL := 2) (ret := none) (by decide) rfl ?_
  intro p e s m args below meth c s₁ B hml hv
  obtain ⟨rfl, hsz, hP, hK, hD0, hN⟩ := hv
  have hx := B.exec
  have hb := B.bytes
  have hr := B.returns
  have hts := atoms_spec (ws := (wa yX11_doubles cX11_doubles 2 none)) B.pre
  have ha : ∀ w ∈ wsL_law, w.before _ s = true := fun w h => hts w (List.mem_cons_of_mem _ h)
  have hown : s.vm.findClass RX11 = some m.cls := findClass_of_methodNamed B.named
  have hlocks := B.notSynchronized
  subst hsz
  have hD := hD0.self (sz := s.heap.size)
  generalize hAe : va_A (mw cI cZ h0 mq mi ma) s.heap.size = A at hD ⊢
  have hA : ∀ q : Nat, s.heap.size ≤ q → A q := fun q h => by rw [← hAe]; exact Or.inr h
  have hS : va_S A s.heap s.heap [] := va_S.rf
  have hP : va_P D vwCl (mw cI cZ h0 mq mi ma) s.heap := hP
  have hl := lv_entry ([.ref h0, .int f]) (n := 2) (Nat.le_of_ble_eq_true rfl)
  rw [lg_entry_eq]
  generalize (lg_sl ([.ref h0, .int f]) ++ List.replicate (2 - (lg_sl ([.ref h0, .int f])).length) Slot.unset).toArray = ls at hl ⊢
  have hl : lv_has ls 2 [(0, .ref h0), (1, .int f)] := hl
  have kc_m1 := tk_m1
  have kc_0 := tk_0
  have kc_1 := tk_1
  have kc_2 := tk_2
  have kc_60000 := tk_60000
  obtain ⟨mi0, hmi0⟩ : ∃ y, y = mi := ⟨_, rfl⟩
  obtain ⟨ma0, hma0⟩ : ∃ y, y = ma := ⟨_, rfl⟩
  have hFI : ∀ k, k ∉ ([] : List Nat) → mi k = mi0 k := fun k _ => by rw [hmi0]
  have hFA : ∀ k, k ∉ ([49] : List Nat) → ma k = ma0 k := fun k _ => by rw [hma0]
  obtain ⟨QP, hQP⟩ : ∃ y : State → Prop, y = (MQ below (va_Qv (fun (_ : Unit) => True) (fun (_ : Unit) (t : State) => ∃ (mi2 : Nat → Int32) (ma2 : Nat → Nat → Int32), ((MB mi2 ma2 ∧ (∀ k, k ∉ ([] : List Nat) → mi2 k = mi k) ∧ (∀ k, k ∉ ([49] : List Nat) → ma2 k = ma k)) ∧ mi2 = (x_doubles f mi ma).1 ∧ ma2 = (x_doubles f mi ma).2.1) ∧ pw_t D cI cJ cZ cO A (mw cI cZ h0 mq mi2 ma2) t) A) #[(.ref h0 : Value), (.int f : Value)] s 0 0 A) := ⟨_, rfl⟩
  obtain ⟨RES, hRES⟩ : ∃ y, y = (x_doubles f mi ma) := ⟨_, rfl⟩
  have hfN : f.toNatClampNeg < 4 := in_lt (vpi_of (n := 4) hf0 (by omega))
  have hle := MB_le2n hI f.toNatClampNeg hfN
  have hlh := MB_le2h hI f.toNatClampNeg hfN
  -- from the entry
  have hE := hRES
  unfold x_doubles at hE
  refine lv_aload_n hx hb dX11_doubles_0 rfl (lv_at hl 0 rfl) ?_
  refine va_get (D := D) (ci := 11) (v := .ref (mq 49)) (C := RX11) (T := TX11) (N := 74) hx hb ha inlX11 hown hK hP 0 mw_at0 rfl 49 (by decide) (ha _ kf_X11_115) (fun _ h9 => h9) rfl dX11_doubles_1 ?_
  refine lv_iload_n hx hb dX11_doubles_4 rfl (lv_at hl 1 rfl) ?_
  refine lv_iconst (v := 2) hx hb dX11_doubles_5 (by decide) ?_
  refine lv_aload_n hx hb dX11_doubles_6 rfl (lv_at hl 0 rfl) ?_
  refine va_get (D := D) (ci := 11) (v := .ref (mq 49)) (C := RX11) (T := TX11) (N := 74) hx hb ha inlX11 hown hK hP 0 mw_at0 rfl 49 (by decide) (ha _ kf_X11_115) (fun _ h9 => h9) rfl dX11_doubles_7 ?_
  refine lv_iload_n hx hb dX11_doubles_10 rfl (lv_at hl 1 rfl) ?_
  have hin_1 : vp_in f 4 := vpi_of (by omega) (by omega)
  refine va_iald hx hb hK hP 31 0 mw_at49 rfl hin_1 dX11_doubles_11 ?_
  refine lv_topi (fun x_2 ex_2 => ?_)
  have hE := bd_at ex_2 hE
  have u_x_2 := congrArg Int32.toInt ex_2
  refine lv_imul hx hb dX11_doubles_12 ?_
  refine lv_topi (fun x_3 ex_3 => ?_)
  have hE := bd_at ex_3 hE
  refine lv_ldcw (v := 60000) hx hb hown (ha _ kk_X11_293) dX11_doubles_13 ?_
  refine lv_icmp_le (tgt := 25) hx hb dX11_doubles_16 (by decide) (fun c_4 => ?_) (fun c_4 => ?_)
  · have t_c_4 := Int32.le_iff_toInt_le.mp c_4
    have hE := hE.trans (if_pos c_4)
    refine lv_iconst (v := 2) hx hb dX11_doubles_25 (by decide) ?_
    refine lv_aload_n hx hb dX11_doubles_26 rfl (lv_at hl 0 rfl) ?_
    refine va_get (D := D) (ci := 11) (v := .ref (mq 49)) (C := RX11) (T := TX11) (N := 74) hx hb ha inlX11 hown hK hP 0 mw_at0 rfl 49 (by decide) (ha _ kf_X11_115) (fun _ h9 => h9) rfl dX11_doubles_27 ?_
    refine lv_iload_n hx hb dX11_doubles_30 rfl (lv_at hl 1 rfl) ?_
    have hin_5 : vp_in f 4 := vpi_of (by omega) (by omega)
    refine va_iald hx hb hK hP 31 0 mw_at49 rfl hin_5 dX11_doubles_31 ?_
    refine lv_topi (fun x_6 ex_6 => ?_)
    have hE := bd_at ex_6 hE
    have u_x_6 := congrArg Int32.toInt ex_6
    refine lv_imul hx hb dX11_doubles_32 ?_
    refine lv_topi (fun x_7 ex_7 => ?_)
    have hE := bd_at ex_7 hE
    have hin_8 : vp_in f 4 := vpi_of (by omega) (by omega)
    refine va_iast hx hb hK hP hD hS 31 0 mw_at49 rfl hin_8 dX11_doubles_33 (fun H locs hP hD hS => ?_)
    have hP : va_P D vwCl (mw cI cZ h0 mq mi (va_up ma 49 (upd (ma 49) f.toNatClampNeg x_7))) H := mwP_49 hP
    have hD : va_D A (mw cI cZ h0 mq mi (va_up ma 49 (upd (ma 49) f.toNatClampNeg x_7))) := mwD_49 hD
    generalize hma_9 : va_up ma 49 (upd (ma 49) f.toNatClampNeg x_7) = ma_9 at hP hD
    have hI : MB mi ma_9 := by rw [← hma_9]; exact MBa_rto hI
    have hFA : ∀ k, k ∉ ([49] : List Nat) → ma_9 k = ma0 k := fun k hk => by rw [← hma_9]; exact (va_up_ne _ _ (fun e => hk (by rw [e]; decide))).trans (hFA k hk)
    have hE := bs_at hma_9 hE
    exact W.vret hx hb hr (fun t ht hW => ⟨⟨(), rfl, trivial, ⟨mi, ma_9, ⟨⟨hI, fun k hk => (hFI k hk).trans (by rw [hmi0]), fun k hk => (hFA k hk).trans (by rw [hma0])⟩, by rw [← hRES, hE], by rw [← hRES, hE]⟩, by rw [ht]; exact hP, va_K.moved hW.alike hK, hD⟩⟩, hS.F ht⟩) hS.2.2 dX11_doubles_34
  · have t_c_4 := Int32.lt_iff_toInt_lt.mp (Int32.not_le.mp c_4)
    have hE := hE.trans (if_neg c_4)
    refine lv_ldcw (v := 60000) hx hb hown (ha _ kk_X11_293) dX11_doubles_19 ?_
    refine lv_goto (tgt := 33) hx hb dX11_doubles_22 (by decide) ?_
    have hin_10 : vp_in f 4 := vpi_of (by omega) (by omega)
    refine va_iast hx hb hK hP hD hS 31 0 mw_at49 rfl hin_10 dX11_doubles_33 (fun H locs hP hD hS => ?_)
    have hP : va_P D vwCl (mw cI cZ h0 mq mi (va_up ma 49 (upd (ma 49) f.toNatClampNeg (60000 : Int32)))) H := mwP_49 hP
    have hD : va_D A (mw cI cZ h0 mq mi (va_up ma 49 (upd (ma 49) f.toNatClampNeg (60000 : Int32)))) := mwD_49 hD
    generalize hma_11 : va_up ma 49 (upd (ma 49) f.toNatClampNeg (60000 : Int32)) = ma_11 at hP hD
    have hI : MB mi ma_11 := by rw [← hma_11]; exact MBa_rto hI
    have hFA : ∀ k, k ∉ ([49] : List Nat) → ma_11 k = ma0 k := fun k hk => by rw [← hma_11]; exact (va_up_ne _ _ (fun e => hk (by rw [e]; decide))).trans (hFA k hk)
    have hE := bs_at hma_11 hE
    exact W.vret hx hb hr (fun t ht hW => ⟨⟨(), rfl, trivial, ⟨mi, ma_11, ⟨⟨hI, fun k hk => (hFI k hk).trans (by rw [hmi0]), fun k hk => (hFA k hk).trans (by rw [hma0])⟩, by rw [← hRES, hE], by rw [← hRES, hE]⟩, by rw [ht]; exact hP, va_K.moved hW.alike hK, hD⟩⟩, hS.F ht⟩) hS.2.2 dX11_doubles_34

set_option maxRecDepth 100000 in
def x_opens (f : Int32) (to : Int32) (mi : Nat → Int32) (ma : Nat → Nat → Int32) : XT := (if to ≤ (262144 : Int32) then bd (va_up ma 47 (upd (ma 47) f.toNatClampNeg to)) (fun a1 => bd (a1 47 f.toNatClampNeg) (fun v2 => bd (a1 68 f.toNatClampNeg) (fun v3 => (if v2 ≤ v3 then bd (a1 68 f.toNatClampNeg) (fun v4 => bd (va_up a1 68 (upd (a1 68) f.toNatClampNeg v4)) (fun a5 => (mi, a5, 0))) else bd (a1 47 f.toNatClampNeg) (fun v6 => bd (va_up a1 68 (upd (a1 68) f.toNatClampNeg v6)) (fun a7 => (mi, a7, 0))))))) else bd (va_up ma 47 (upd (ma 47) f.toNatClampNeg (262144 : Int32))) (fun a8 => bd (a8 47 f.toNatClampNeg) (fun v9 => bd (a8 68 f.toNatClampNeg) (fun v10 => (if v9 ≤ v10 then bd (a8 68 f.toNatClampNeg) (fun v11 => bd (va_up a8 68 (upd (a8 68) f.toNatClampNeg v11)) (fun a12 => (mi, a12, 0))) else bd (a8 47 f.toNatClampNeg) (fun v13 => bd (va_up a8 68 (upd (a8 68) f.toNatClampNeg v13)) (fun a14 => (mi, a14, 0))))))))
set_option maxHeartbeats 4000000 in
set_option maxRecDepth 100000 in
theorem m_opens (l : Launch) (D : va_G) (cI cJ cZ cO : ClassId) (sz : Nat) (h0 : Nat) (mq : Nat → Nat) (mi : Nat → Int32) (ma : Nat → Nat → Int32) (ph : Nat) (cl : Int) (f to : Int32) (hI : MB mi ma) (hf0 : 0 ≤ f.toInt) (hf4 : f.toInt < 4) (ht : 1 ≤ to.toInt) : Met l yX11_opens (wa yX11_opens cX11_opens 3 none) ({ frames := 0, cells := 0, slots := 0, locals := 0 }) (va_Pc [.ref h0, .int f, .int to] (pw_s D cI cJ cZ cO sz (mw cI cZ h0 mq mi ma))) (va_Qv (fun (_ : Unit) => True) (fun (_ : Unit) (t : State) => ∃ (mi2 : Nat → Int32) (ma2 : Nat → Nat → Int32), ((MB mi2 ma2 ∧ (∀ k, k ∉ ([] : List Nat) → mi2 k = mi k) ∧ (∀ k, k ∉ ([47, 68] : List Nat) → ma2 k = ma k)) ∧ mi2 = (x_opens f to mi ma).1 ∧ ma2 = (x_opens f to mi ma).2.1) ∧ pw_t D cI cJ cZ cO (va_A (mw cI cZ h0 mq mi ma) sz) (mw cI cZ h0 mq mi2 ma2) t) (va_A (mw cI cZ h0 mq mi ma) sz)) 0 0 (va_A (mw cI cZ h0 mq mi ma) sz) := by
  refine Met.ofW (cc := cX11_opens) (maxL := 3) (ret := none) (by decide) rfl ?_
  intro p e s m args below meth c s₁ B hml hv
  obtain ⟨rfl, hsz, hP, hK, hD0, hN⟩ := hv
  have hx := B.exec
  have hb := B.bytes
  have hr := B.returns
  have hts := atoms_spec (ws := (wa yX11_opens cX11_opens 3 none)) B.pre
  have ha : ∀ w ∈ wsL_law, w.before _ s = true := fun w h => hts w (List.mem_cons_of_mem _ h)
  have hown : s.vm.findClass RX11 = some m.cls := findClass_of_methodNamed B.named
  have hlocks := B.notSynchronized
  subst hsz
  have hD := hD0.self (sz := s.heap.size)
  generalize hAe : va_A (mw cI cZ h0 mq mi ma) s.heap.size = A at hD ⊢
  have hA : ∀ q : Nat, s.heap.size ≤ q → A q := fun q h => by rw [← hAe]; exact Or.inr h
  have hS : va_S A s.heap s.heap [] := va_S.rf
  have hP : va_P D vwCl (mw cI cZ h0 mq mi ma) s.heap := hP
  have hl := lv_entry ([.ref h0, .int f, .int to]) (n := 3) (Nat.le_of_ble_eq_true rfl)
  rw [lg_entry_eq]
  generalize (lg_sl ([.ref h0, .int f, .int to]) ++ List.replicate (3 - (lg_sl ([.ref h0, .int f, .int to])).length) Slot.unset).toArray = ls at hl ⊢
  have hl : lv_has ls 3 [(0, .ref h0), (1, .int f), (2, .int to)] := hl
  have kc_m1 := tk_m1
  have kc_0 := tk_0
  have kc_1 := tk_1
  have kc_262144 := tk_262144
  obtain ⟨mi0, hmi0⟩ : ∃ y, y = mi := ⟨_, rfl⟩
  obtain ⟨ma0, hma0⟩ : ∃ y, y = ma := ⟨_, rfl⟩
  have hFI : ∀ k, k ∉ ([] : List Nat) → mi k = mi0 k := fun k _ => by rw [hmi0]
  have hFA : ∀ k, k ∉ ([47, 68] : List Nat) → ma k = ma0 k := fun k _ => by rw [hma0]
  obtain ⟨QP, hQP⟩ : ∃ y : State → Prop, y = (MQ below (va_Qv (fun (_ : Unit) => True) (fun (_ : Unit) (t : State) => ∃ (mi2 : Nat → Int32) (ma2 : Nat → Nat → Int32), ((MB mi2 ma2 ∧ (∀ k, k ∉ ([] : List Nat) → mi2 k = mi k) ∧ (∀ k, k ∉ ([47, 68] : List Nat) → ma2 k = ma k)) ∧ mi2 = (x_opens f to mi ma).1 ∧ ma2 = (x_opens f to mi ma).2.1) ∧ pw_t D cI cJ cZ cO A (mw cI cZ h0 mq mi2 ma2) t) A) #[(.ref h0 : Value), (.int f : Value), (.int to : Value)] s 0 0 A) := ⟨_, rfl⟩
  obtain ⟨RES, hRES⟩ : ∃ y, y = (x_opens f to mi ma) := ⟨_, rfl⟩
  have hfN : f.toNatClampNeg < 4 := in_lt (vpi_of (n := 4) hf0 (by omega))
  have hle := MB_le2n hI f.toNatClampNeg hfN
  have hlh := MB_le2h hI f.toNatClampNeg hfN
  -- from the entry
  have hE := hRES
  unfold x_opens at hE
  refine lv_aload_n hx hb dX11_opens_0 rfl (lv_at hl 0 rfl) ?_
  refine va_get (D := D) (ci := 11) (v := .ref (mq 47)) (C := RX11) (T := TX11) (N := 74) hx hb ha inlX11 hown hK hP 0 mw_at0 rfl 47 (by decide) (ha _ kf_X11_109) (fun _ h9 => h9) rfl dX11_opens_1 ?_
  refine lv_iload_n hx hb dX11_opens_4 rfl (lv_at hl 1 rfl) ?_
  refine lv_iload_n hx hb dX11_opens_5 rfl (lv_at hl 2 rfl) ?_
  refine lv_ldcw (v := 262144) hx hb hown (ha _ kk_X11_294) dX11_opens_6 ?_
  refine lv_icmp_le (tgt := 18) hx hb dX11_opens_9 (by decide) (fun c_1 => ?_) (fun c_1 => ?_)
  · have t_c_1 := Int32.le_iff_toInt_le.mp c_1
    have hE := hE.trans (if_pos c_1)
    refine lv_iload_n hx hb dX11_opens_18 rfl (lv_at hl 2 rfl) ?_
    have hin_2 : vp_in f 4 := vpi_of (by omega) (by omega)
    refine va_iast hx hb hK hP hD hS 29 0 mw_at47 rfl hin_2 dX11_opens_19 (fun H locs hP hD hS => ?_)
    have hP : va_P D vwCl (mw cI cZ h0 mq mi (va_up ma 47 (upd (ma 47) f.toNatClampNeg to))) H := mwP_47 hP
    have hD : va_D A (mw cI cZ h0 mq mi (va_up ma 47 (upd (ma 47) f.toNatClampNeg to))) := mwD_47 hD
    generalize hma_3 : va_up ma 47 (upd (ma 47) f.toNatClampNeg to) = ma_3 at hP hD
    have hI : MB mi ma_3 := by rw [← hma_3]; exact MBa_cwnd hI (by omega) (by omega)
    have hFA : ∀ k, k ∉ ([47, 68] : List Nat) → ma_3 k = ma0 k := fun k hk => by rw [← hma_3]; exact (va_up_ne _ _ (fun e => hk (by rw [e]; decide))).trans (hFA k hk)
    have hE := bs_at hma_3 hE
    refine lv_aload_n hx hb dX11_opens_20 rfl (lv_at hl 0 rfl) ?_
    refine va_get (D := D) (ci := 11) (v := .ref (mq 68)) (C := RX11) (T := TX11) (N := 74) hx hb ha inlX11 hown hK hP 0 mw_at0 rfl 68 (by decide) (ha _ kf_X11_172) (fun _ h9 => h9) rfl dX11_opens_21 ?_
    refine lv_iload_n hx hb dX11_opens_24 rfl (lv_at hl 1 rfl) ?_
    refine lv_aload_n hx hb dX11_opens_25 rfl (lv_at hl 0 rfl) ?_
    refine va_get (D := D) (ci := 11) (v := .ref (mq 47)) (C := RX11) (T := TX11) (N := 74) hx hb ha inlX11 hown hK hP 0 mw_at0 rfl 47 (by decide) (ha _ kf_X11_109) (fun _ h9 => h9) rfl dX11_opens_26 ?_
    refine lv_iload_n hx hb dX11_opens_29 rfl (lv_at hl 1 rfl) ?_
    have hin_4 : vp_in f 4 := vpi_of (by omega) (by omega)
    refine va_iald hx hb hK hP 29 0 mw_at47 rfl hin_4 dX11_opens_30 ?_
    refine lv_topi (fun x_5 ex_5 => ?_)
    have hE := bd_at ex_5 hE
    have u_x_5 := congrArg Int32.toInt ex_5
    have r_x_5 := rg_ld (MB_cwnd hI) hin_4 ex_5
    refine lv_aload_n hx hb dX11_opens_31 rfl (lv_at hl 0 rfl) ?_
    refine va_get (D := D) (ci := 11) (v := .ref (mq 68)) (C := RX11) (T := TX11) (N := 74) hx hb ha inlX11 hown hK hP 0 mw_at0 rfl 68 (by decide) (ha _ kf_X11_172) (fun _ h9 => h9) rfl dX11_opens_32 ?_
    refine lv_iload_n hx hb dX11_opens_35 rfl (lv_at hl 1 rfl) ?_
    have hin_6 : vp_in f 4 := vpi_of (by omega) (by omega)
    refine va_iald hx hb hK hP 50 0 mw_at68 rfl hin_6 dX11_opens_36 ?_
    refine lv_topi (fun x_7 ex_7 => ?_)
    have hE := bd_at ex_7 hE
    have u_x_7 := congrArg Int32.toInt ex_7
    refine lv_icmp_le (tgt := 49) hx hb dX11_opens_37 (by decide) (fun c_8 => ?_) (fun c_8 => ?_)
    · have t_c_8 := Int32.le_iff_toInt_le.mp c_8
      have hE := hE.trans (if_pos c_8)
      refine lv_aload_n hx hb dX11_opens_49 rfl (lv_at hl 0 rfl) ?_
      refine va_get (D := D) (ci := 11) (v := .ref (mq 68)) (C := RX11) (T := TX11) (N := 74) hx hb ha inlX11 hown hK hP 0 mw_at0 rfl 68 (by decide) (ha _ kf_X11_172) (fun _ h9 => h9) rfl dX11_opens_50 ?_
      refine lv_iload_n hx hb dX11_opens_53 rfl (lv_at hl 1 rfl) ?_
      have hin_9 : vp_in f 4 := vpi_of (by omega) (by omega)
      refine va_iald hx hb hK hP 50 0 mw_at68 rfl hin_9 dX11_opens_54 ?_
      refine lv_topi (fun x_10 ex_10 => ?_)
      have hE := bd_at ex_10 hE
      have u_x_10 := congrArg Int32.toInt ex_10
      have hin_11 : vp_in f 4 := vpi_of (by omega) (by omega)
      refine va_iast hx hb hK hP hD hS 50 0 mw_at68 rfl hin_11 dX11_opens_55 (fun H locs hP hD hS => ?_)
      have hP : va_P D vwCl (mw cI cZ h0 mq mi (va_up ma_3 68 (upd (ma_3 68) f.toNatClampNeg x_10))) H := mwP_68 hP
      have hD : va_D A (mw cI cZ h0 mq mi (va_up ma_3 68 (upd (ma_3 68) f.toNatClampNeg x_10))) := mwD_68 hD
      generalize hma_12 : va_up ma_3 68 (upd (ma_3 68) f.toNatClampNeg x_10) = ma_12 at hP hD
      have hI : MB mi ma_12 := by rw [← hma_12]; exact MBa_greatest hI
      have hFA : ∀ k, k ∉ ([47, 68] : List Nat) → ma_12 k = ma0 k := fun k hk => by rw [← hma_12]; exact (va_up_ne _ _ (fun e => hk (by rw [e]; decide))).trans (hFA k hk)
      have hE := bs_at hma_12 hE
      exact W.vret hx hb hr (fun t ht hW => ⟨⟨(), rfl, trivial, ⟨mi, ma_12, ⟨⟨hI, fun k hk => (hFI k hk).trans (by rw [hmi0]), fun k hk => (hFA k hk).trans (by rw [hma0])⟩, by rw [← hRES, hE], by rw [← hRES, hE]⟩, by rw [ht]; exact hP, va_K.moved hW.alike hK, hD⟩⟩, hS.F ht⟩) hS.2.2 dX11_opens_56
    · have t_c_8 := Int32.lt_iff_toInt_lt.mp (Int32.not_le.mp c_8)
      have hE := hE.trans (if_neg c_8)
      refine lv_aload_n hx hb dX11_opens_40 rfl (lv_at hl 0 rfl) ?_
      refine va_get (D := D) (ci := 11) (v := .ref (mq 47)) (C := RX11) (T := TX11) (N := 74) hx hb ha inlX11 hown hK hP 0 mw_at0 rfl 47 (by decide) (ha _ kf_X11_109) (fun _ h9 => h9) rfl dX11_opens_41 ?_
      refine lv_iload_n hx hb dX11_opens_44 rfl (lv_at hl 1 rfl) ?_
      have hin_13 : vp_in f 4 := vpi_of (by omega) (by omega)
      refine va_iald hx hb hK hP 29 0 mw_at47 rfl hin_13 dX11_opens_45 ?_
      refine lv_topi (fun x_14 ex_14 => ?_)
      have hE := bd_at ex_14 hE
      have u_x_14 := congrArg Int32.toInt ex_14
      have r_x_14 := rg_ld (MB_cwnd hI) hin_13 ex_14
      refine lv_goto (tgt := 55) hx hb dX11_opens_46 (by decide) ?_
      have hin_15 : vp_in f 4 := vpi_of (by omega) (by omega)
      refine va_iast hx hb hK hP hD hS 50 0 mw_at68 rfl hin_15 dX11_opens_55 (fun H locs hP hD hS => ?_)
      have hP : va_P D vwCl (mw cI cZ h0 mq mi (va_up ma_3 68 (upd (ma_3 68) f.toNatClampNeg x_14))) H := mwP_68 hP
      have hD : va_D A (mw cI cZ h0 mq mi (va_up ma_3 68 (upd (ma_3 68) f.toNatClampNeg x_14))) := mwD_68 hD
      generalize hma_16 : va_up ma_3 68 (upd (ma_3 68) f.toNatClampNeg x_14) = ma_16 at hP hD
      have hI : MB mi ma_16 := by rw [← hma_16]; exact MBa_greatest hI
      have hFA : ∀ k, k ∉ ([47, 68] : List Nat) → ma_16 k = ma0 k := fun k hk => by rw [← hma_16]; exact (va_up_ne _ _ (fun e => hk (by rw [e]; decide))).trans (hFA k hk)
      have hE := bs_at hma_16 hE
      exact W.vret hx hb hr (fun t ht hW => ⟨⟨(), rfl, trivial, ⟨mi, ma_16, ⟨⟨hI, fun k hk => (hFI k hk).trans (by rw [hmi0]), fun k hk => (hFA k hk).trans (by rw [hma0])⟩, by rw [← hRES, hE], by rw [← hRES, hE]⟩, by rw [ht]; exact hP, va_K.moved hW.alike hK, hD⟩⟩, hS.F ht⟩) hS.2.2 dX11_opens_56
  · have t_c_1 := Int32.lt_iff_toInt_lt.mp (Int32.not_le.mp c_1)
    have hE := hE.trans (if_neg c_1)
    refine lv_ldcw (v := 262144) hx hb hown (ha _ kk_X11_294) dX11_opens_12 ?_
    refine lv_goto (tgt := 19) hx hb dX11_opens_15 (by decide) ?_
    have hin_17 : vp_in f 4 := vpi_of (by omega) (by omega)
    refine va_iast hx hb hK hP hD hS 29 0 mw_at47 rfl hin_17 dX11_opens_19 (fun H locs hP hD hS => ?_)
    have hP : va_P D vwCl (mw cI cZ h0 mq mi (va_up ma 47 (upd (ma 47) f.toNatClampNeg (262144 : Int32)))) H := mwP_47 hP
    have hD : va_D A (mw cI cZ h0 mq mi (va_up ma 47 (upd (ma 47) f.toNatClampNeg (262144 : Int32)))) := mwD_47 hD
    generalize hma_18 : va_up ma 47 (upd (ma 47) f.toNatClampNeg (262144 : Int32)) = ma_18 at hP hD
    have hI : MB mi ma_18 := by rw [← hma_18]; exact MBa_cwnd hI (by omega) (by omega)
    have hFA : ∀ k, k ∉ ([47, 68] : List Nat) → ma_18 k = ma0 k := fun k hk => by rw [← hma_18]; exact (va_up_ne _ _ (fun e => hk (by rw [e]; decide))).trans (hFA k hk)
    have hE := bs_at hma_18 hE
    refine lv_aload_n hx hb dX11_opens_20 rfl (lv_at hl 0 rfl) ?_
    refine va_get (D := D) (ci := 11) (v := .ref (mq 68)) (C := RX11) (T := TX11) (N := 74) hx hb ha inlX11 hown hK hP 0 mw_at0 rfl 68 (by decide) (ha _ kf_X11_172) (fun _ h9 => h9) rfl dX11_opens_21 ?_
    refine lv_iload_n hx hb dX11_opens_24 rfl (lv_at hl 1 rfl) ?_
    refine lv_aload_n hx hb dX11_opens_25 rfl (lv_at hl 0 rfl) ?_
    refine va_get (D := D) (ci := 11) (v := .ref (mq 47)) (C := RX11) (T := TX11) (N := 74) hx hb ha inlX11 hown hK hP 0 mw_at0 rfl 47 (by decide) (ha _ kf_X11_109) (fun _ h9 => h9) rfl dX11_opens_26 ?_
    refine lv_iload_n hx hb dX11_opens_29 rfl (lv_at hl 1 rfl) ?_
    have hin_19 : vp_in f 4 := vpi_of (by omega) (by omega)
    refine va_iald hx hb hK hP 29 0 mw_at47 rfl hin_19 dX11_opens_30 ?_
    refine lv_topi (fun x_20 ex_20 => ?_)
    have hE := bd_at ex_20 hE
    have u_x_20 := congrArg Int32.toInt ex_20
    have r_x_20 := rg_ld (MB_cwnd hI) hin_19 ex_20
    refine lv_aload_n hx hb dX11_opens_31 rfl (lv_at hl 0 rfl) ?_
    refine va_get (D := D) (ci := 11) (v := .ref (mq 68)) (C := RX11) (T := TX11) (N := 74) hx hb ha inlX11 hown hK hP 0 mw_at0 rfl 68 (by decide) (ha _ kf_X11_172) (fun _ h9 => h9) rfl dX11_opens_32 ?_
    refine lv_iload_n hx hb dX11_opens_35 rfl (lv_at hl 1 rfl) ?_
    have hin_21 : vp_in f 4 := vpi_of (by omega) (by omega)
    refine va_iald hx hb hK hP 50 0 mw_at68 rfl hin_21 dX11_opens_36 ?_
    refine lv_topi (fun x_22 ex_22 => ?_)
    have hE := bd_at ex_22 hE
    have u_x_22 := congrArg Int32.toInt ex_22
    refine lv_icmp_le (tgt := 49) hx hb dX11_opens_37 (by decide) (fun c_23 => ?_) (fun c_23 => ?_)
    · have t_c_23 := Int32.le_iff_toInt_le.mp c_23
      have hE := hE.trans (if_pos c_23)
      refine lv_aload_n hx hb dX11_opens_49 rfl (lv_at hl 0 rfl) ?_
      refine va_get (D := D) (ci := 11) (v := .ref (mq 68)) (C := RX11) (T := TX11) (N := 74) hx hb ha inlX11 hown hK hP 0 mw_at0 rfl 68 (by decide) (ha _ kf_X11_172) (fun _ h9 => h9) rfl dX11_opens_50 ?_
      refine lv_iload_n hx hb dX11_opens_53 rfl (lv_at hl 1 rfl) ?_
      have hin_24 : vp_in f 4 := vpi_of (by omega) (by omega)
      refine va_iald hx hb hK hP 50 0 mw_at68 rfl hin_24 dX11_opens_54 ?_
      refine lv_topi (fun x_25 ex_25 => ?_)
      have hE := bd_at ex_25 hE
      have u_x_25 := congrArg Int32.toInt ex_25
      have hin_26 : vp_in f 4 := vpi_of (by omega) (by omega)
      refine va_iast hx hb hK hP hD hS 50 0 mw_at68 rfl hin_26 dX11_opens_55 (fun H locs hP hD hS => ?_)
      have hP : va_P D vwCl (mw cI cZ h0 mq mi (va_up ma_18 68 (upd (ma_18 68) f.toNatClampNeg x_25))) H := mwP_68 hP
      have hD : va_D A (mw cI cZ h0 mq mi (va_up ma_18 68 (upd (ma_18 68) f.toNatClampNeg x_25))) := mwD_68 hD
      generalize hma_27 : va_up ma_18 68 (upd (ma_18 68) f.toNatClampNeg x_25) = ma_27 at hP hD
      have hI : MB mi ma_27 := by rw [← hma_27]; exact MBa_greatest hI
      have hFA : ∀ k, k ∉ ([47, 68] : List Nat) → ma_27 k = ma0 k := fun k hk => by rw [← hma_27]; exact (va_up_ne _ _ (fun e => hk (by rw [e]; decide))).trans (hFA k hk)
      have hE := bs_at hma_27 hE
      exact W.vret hx hb hr (fun t ht hW => ⟨⟨(), rfl, trivial, ⟨mi, ma_27, ⟨⟨hI, fun k hk => (hFI k hk).trans (by rw [hmi0]), fun k hk => (hFA k hk).trans (by rw [hma0])⟩, by rw [← hRES, hE], by rw [← hRES, hE]⟩, by rw [ht]; exact hP, va_K.moved hW.alike hK, hD⟩⟩, hS.F ht⟩) hS.2.2 dX11_opens_56
    · have t_c_23 := Int32.lt_iff_toInt_lt.mp (Int32.not_le.mp c_23)
      have hE := hE.trans (if_neg c_23)
      refine lv_aload_n hx hb dX11_opens_40 rfl (lv_at hl 0 rfl) ?_
      refine va_get (D := D) (ci := 11) (v := .ref (mq 47)) (C := RX11) (T := TX11) (N := 74) hx hb ha inlX11 hown hK hP 0 mw_at0 rfl 47 (by decide) (ha _ kf_X11_109) (fun _ h9 => h9) rfl dX11_opens_41 ?_
      refine lv_iload_n hx hb dX11_opens_44 rfl (lv_at hl 1 rfl) ?_
      have hin_28 : vp_in f 4 := vpi_of (by omega) (by omega)
      refine va_iald hx hb hK hP 29 0 mw_at47 rfl hin_28 dX11_opens_45 ?_
      refine lv_topi (fun x_29 ex_29 => ?_)
      have hE := bd_at ex_29 hE
      have u_x_29 := congrArg Int32.toInt ex_29
      have r_x_29 := rg_ld (MB_cwnd hI) hin_28 ex_29
      refine lv_goto (tgt := 55) hx hb dX11_opens_46 (by decide) ?_
      have hin_30 : vp_in f 4 := vpi_of (by omega) (by omega)
      refine va_iast hx hb hK hP hD hS 50 0 mw_at68 rfl hin_30 dX11_opens_55 (fun H locs hP hD hS => ?_)
      have hP : va_P D vwCl (mw cI cZ h0 mq mi (va_up ma_18 68 (upd (ma_18 68) f.toNatClampNeg x_29))) H := mwP_68 hP
      have hD : va_D A (mw cI cZ h0 mq mi (va_up ma_18 68 (upd (ma_18 68) f.toNatClampNeg x_29))) := mwD_68 hD
      generalize hma_31 : va_up ma_18 68 (upd (ma_18 68) f.toNatClampNeg x_29) = ma_31 at hP hD
      have hI : MB mi ma_31 := by rw [← hma_31]; exact MBa_greatest hI
      have hFA : ∀ k, k ∉ ([47, 68] : List Nat) → ma_31 k = ma0 k := fun k hk => by rw [← hma_31]; exact (va_up_ne _ _ (fun e => hk (by rw [e]; decide))).trans (hFA k hk)
      have hE := bs_at hma_31 hE
      exact W.vret hx hb hr (fun t ht hW => ⟨⟨(), rfl, trivial, ⟨mi, ma_31, ⟨⟨hI, fun k hk => (hFI k hk).trans (by rw [hmi0]), fun k hk => (hFA k hk).trans (by rw [hma0])⟩, by rw [← hRES, hE], by rw [← hRES, hE]⟩, by rw [ht]; exact hP, va_K.moved hW.alike hK, hD⟩⟩, hS.F ht⟩) hS.2.2 dX11_opens_56

set_option maxRecDepth 100000 in
def x_mayNext (f : Int32) (mi : Nat → Int32) (ma : Nat → Nat → Int32) : XT := bd (ma 45 f.toNatClampNeg) (fun v1 => bd (ma 43 f.toNatClampNeg) (fun v2 => (if v2 ≤ v1 then (mi, ma, (0 : Int32)) else bd (ma 45 f.toNatClampNeg) (fun v3 => bd (ma 44 f.toNatClampNeg) (fun v4 => bd (ma 60 f.toNatClampNeg) (fun v5 => bd (v4 + v5) (fun v6 => (if v6 ≤ v3 then (mi, ma, (0 : Int32)) else (mi, ma, (1 : Int32))))))))))
set_option maxHeartbeats 4000000 in
set_option maxRecDepth 100000 in
theorem m_mayNext (l : Launch) (D : va_G) (cI cJ cZ cO : ClassId) (sz : Nat) (h0 : Nat) (mq : Nat → Nat) (mi : Nat → Int32) (ma : Nat → Nat → Int32) (ph : Nat) (cl : Int) (f : Int32) (hI : MB mi ma) (hf0 : 0 ≤ f.toInt) (hf4 : f.toInt < 4) : Met l yX11_mayNext (wa yX11_mayNext cX11_mayNext 2 (some .boolean)) ({ frames := 0, cells := 0, slots := 0, locals := 0 }) (va_Pc [.ref h0, .int f] (pw_s D cI cJ cZ cO sz (mw cI cZ h0 mq mi ma))) (va_Qi (fun (r : Int32) (_ : Unit) => ((((r = 0 ∨ r = 1) ∧ (¬ r = 0 → (ma 45 f.toNatClampNeg).toInt < 1000000 ∧ (ma 45 f.toNatClampNeg).toInt < (ma 44 f.toNatClampNeg).toInt + 200))) ∧ r = (x_mayNext f mi ma).2.2)) (fun (_ : Unit) (t : State) => ∃ (mi2 : Nat → Int32) (ma2 : Nat → Nat → Int32), ((MB mi2 ma2 ∧ (∀ k, k ∉ ([] : List Nat) → mi2 k = mi k) ∧ (∀ k, k ∉ ([] : List Nat) → ma2 k = ma k)) ∧ mi2 = (x_mayNext f mi ma).1 ∧ ma2 = (x_mayNext f mi ma).2.1) ∧ pw_t D cI cJ cZ cO (va_A (mw cI cZ h0 mq mi ma) sz) (mw cI cZ h0 mq mi2 ma2) t) (va_A (mw cI cZ h0 mq mi ma) sz)) 0 0 (va_A (mw cI cZ h0 mq mi ma) sz) := by
  refine Met.ofW (cc := cX11_mayNext) (maxL := 2) (ret := (some .boolean)) (by decide) rfl ?_
  intro p e s m args below meth c s₁ B hml hv
  obtain ⟨rfl, hsz, hP, hK, hD0, hN⟩ := hv
  have hx := B.exec
  have hb := B.bytes
  have hr := B.returns
  have hts := atoms_spec (ws := (wa yX11_mayNext cX11_mayNext 2 (some .boolean))) B.pre
  have ha : ∀ w ∈ wsL_law, w.before _ s = true := fun w h => hts w (List.mem_cons_of_mem _ h)
  have hown : s.vm.findClass RX11 = some m.cls := findClass_of_methodNamed B.named
  have hlocks := B.notSynchronized
  subst hsz
  have hD := hD0.self (sz := s.heap.size)
  generalize hAe : va_A (mw cI cZ h0 mq mi ma) s.heap.size = A at hD ⊢
  have hA : ∀ q : Nat, s.heap.size ≤ q → A q := fun q h => by rw [← hAe]; exact Or.inr h
  have hS : va_S A s.heap s.heap [] := va_S.rf
  have hP : va_P D vwCl (mw cI cZ h0 mq mi ma) s.heap := hP
  have hl := lv_entry ([.ref h0, .int f]) (n := 2) (Nat.le_of_ble_eq_true rfl)
  rw [lg_entry_eq]
  generalize (lg_sl ([.ref h0, .int f]) ++ List.replicate (2 - (lg_sl ([.ref h0, .int f])).length) Slot.unset).toArray = ls at hl ⊢
  have hl : lv_has ls 2 [(0, .ref h0), (1, .int f)] := hl
  have kc_m1 := tk_m1
  have kc_0 := tk_0
  have kc_1 := tk_1
  obtain ⟨mi0, hmi0⟩ : ∃ y, y = mi := ⟨_, rfl⟩
  obtain ⟨ma0, hma0⟩ : ∃ y, y = ma := ⟨_, rfl⟩
  have hFI : ∀ k, k ∉ ([] : List Nat) → mi k = mi0 k := fun k _ => by rw [hmi0]
  have hFA : ∀ k, k ∉ ([] : List Nat) → ma k = ma0 k := fun k _ => by rw [hma0]
  obtain ⟨QP, hQP⟩ : ∃ y : State → Prop, y = (MQ below (va_Qi (fun (r : Int32) (_ : Unit) => ((((r = 0 ∨ r = 1) ∧ (¬ r = 0 → (ma 45 f.toNatClampNeg).toInt < 1000000 ∧ (ma 45 f.toNatClampNeg).toInt < (ma 44 f.toNatClampNeg).toInt + 200))) ∧ r = (x_mayNext f mi ma).2.2)) (fun (_ : Unit) (t : State) => ∃ (mi2 : Nat → Int32) (ma2 : Nat → Nat → Int32), ((MB mi2 ma2 ∧ (∀ k, k ∉ ([] : List Nat) → mi2 k = mi k) ∧ (∀ k, k ∉ ([] : List Nat) → ma2 k = ma k)) ∧ mi2 = (x_mayNext f mi ma).1 ∧ ma2 = (x_mayNext f mi ma).2.1) ∧ pw_t D cI cJ cZ cO A (mw cI cZ h0 mq mi2 ma2) t) A) #[(.ref h0 : Value), (.int f : Value)] s 0 0 A) := ⟨_, rfl⟩
  obtain ⟨RES, hRES⟩ : ∃ y, y = (x_mayNext f mi ma) := ⟨_, rfl⟩
  have hfN : f.toNatClampNeg < 4 := in_lt (vpi_of (n := 4) hf0 (by omega))
  have hle := MB_le2n hI f.toNatClampNeg hfN
  have hlh := MB_le2h hI f.toNatClampNeg hfN
  -- from the entry
  have hE := hRES
  unfold x_mayNext at hE
  refine lv_aload_n hx hb dX11_mayNext_0 rfl (lv_at hl 0 rfl) ?_
  refine va_get (D := D) (ci := 11) (v := .ref (mq 45)) (C := RX11) (T := TX11) (N := 74) hx hb ha inlX11 hown hK hP 0 mw_at0 rfl 45 (by decide) (ha _ kf_X11_103) (fun _ h9 => h9) rfl dX11_mayNext_1 ?_
  refine lv_iload_n hx hb dX11_mayNext_4 rfl (lv_at hl 1 rfl) ?_
  have hin_1 : vp_in f 4 := vpi_of (by omega) (by omega)
  refine va_iald hx hb hK hP 27 0 mw_at45 rfl hin_1 dX11_mayNext_5 ?_
  refine lv_topi (fun x_2 ex_2 => ?_)
  have hE := bd_at ex_2 hE
  have u_x_2 := congrArg Int32.toInt ex_2
  have r_x_2 := rg_ld (MB_nxt hI) hin_1 ex_2
  refine lv_aload_n hx hb dX11_mayNext_6 rfl (lv_at hl 0 rfl) ?_
  refine va_get (D := D) (ci := 11) (v := .ref (mq 43)) (C := RX11) (T := TX11) (N := 74) hx hb ha inlX11 hown hK hP 0 mw_at0 rfl 43 (by decide) (ha _ kf_X11_97) (fun _ h9 => h9) rfl dX11_mayNext_7 ?_
  refine lv_iload_n hx hb dX11_mayNext_10 rfl (lv_at hl 1 rfl) ?_
  have hin_3 : vp_in f 4 := vpi_of (by omega) (by omega)
  refine va_iald hx hb hK hP 25 0 mw_at43 rfl hin_3 dX11_mayNext_11 ?_
  refine lv_topi (fun x_4 ex_4 => ?_)
  have hE := bd_at ex_4 hE
  have u_x_4 := congrArg Int32.toInt ex_4
  have r_x_4 := rg_ld (MB_all hI) hin_3 ex_4
  refine lv_icmp_ge (tgt := 41) hx hb dX11_mayNext_12 (by decide) (fun c_5 => ?_) (fun c_5 => ?_)
  · have t_c_5 := Int32.le_iff_toInt_le.mp c_5
    have hE := hE.trans (if_pos c_5)
    refine lv_iconst (v := 0) hx hb dX11_mayNext_41 (by decide) ?_
    exact W.zret (v := 0) hx hb hr rfl (fun t ht hW => ⟨⟨0, (), rfl, ⟨⟨by decide, fun h9 => absurd rfl h9⟩, by rw [← hRES, hE]⟩, ⟨mi, ma, ⟨⟨hI, fun k hk => (hFI k hk).trans (by rw [hmi0]), fun k hk => (hFA k hk).trans (by rw [hma0])⟩, by rw [← hRES, hE], by rw [← hRES, hE]⟩, by rw [ht]; exact hP, va_K.moved hW.alike hK, hD⟩⟩, hS.F ht⟩) hS.2.2 dX11_mayNext_42
  · have t_c_5 := Int32.lt_iff_toInt_lt.mp (Int32.not_le.mp c_5)
    have hE := hE.trans (if_neg c_5)
    refine lv_aload_n hx hb dX11_mayNext_15 rfl (lv_at hl 0 rfl) ?_
    refine va_get (D := D) (ci := 11) (v := .ref (mq 45)) (C := RX11) (T := TX11) (N := 74) hx hb ha inlX11 hown hK hP 0 mw_at0 rfl 45 (by decide) (ha _ kf_X11_103) (fun _ h9 => h9) rfl dX11_mayNext_16 ?_
    refine lv_iload_n hx hb dX11_mayNext_19 rfl (lv_at hl 1 rfl) ?_
    have hin_6 : vp_in f 4 := vpi_of (by omega) (by omega)
    refine va_iald hx hb hK hP 27 0 mw_at45 rfl hin_6 dX11_mayNext_20 ?_
    refine lv_topi (fun x_7 ex_7 => ?_)
    have hE := bd_at ex_7 hE
    have u_x_7 := congrArg Int32.toInt ex_7
    have r_x_7 := rg_ld (MB_nxt hI) hin_6 ex_7
    refine lv_aload_n hx hb dX11_mayNext_21 rfl (lv_at hl 0 rfl) ?_
    refine va_get (D := D) (ci := 11) (v := .ref (mq 44)) (C := RX11) (T := TX11) (N := 74) hx hb ha inlX11 hown hK hP 0 mw_at0 rfl 44 (by decide) (ha _ kf_X11_100) (fun _ h9 => h9) rfl dX11_mayNext_22 ?_
    refine lv_iload_n hx hb dX11_mayNext_25 rfl (lv_at hl 1 rfl) ?_
    have hin_8 : vp_in f 4 := vpi_of (by omega) (by omega)
    refine va_iald hx hb hK hP 26 0 mw_at44 rfl hin_8 dX11_mayNext_26 ?_
    refine lv_topi (fun x_9 ex_9 => ?_)
    have hE := bd_at ex_9 hE
    have u_x_9 := congrArg Int32.toInt ex_9
    have r_x_9 := rg_ld (MB_una hI) hin_8 ex_9
    refine lv_aload_n hx hb dX11_mayNext_27 rfl (lv_at hl 0 rfl) ?_
    refine va_get (D := D) (ci := 11) (v := .ref (mq 60)) (C := RX11) (T := TX11) (N := 74) hx hb ha inlX11 hown hK hP 0 mw_at0 rfl 60 (by decide) (ha _ kf_X11_148) (fun _ h9 => h9) rfl dX11_mayNext_28 ?_
    refine lv_iload_n hx hb dX11_mayNext_31 rfl (lv_at hl 1 rfl) ?_
    have hin_10 : vp_in f 4 := vpi_of (by omega) (by omega)
    refine va_iald hx hb hK hP 42 0 mw_at60 rfl hin_10 dX11_mayNext_32 ?_
    refine lv_topi (fun x_11 ex_11 => ?_)
    have hE := bd_at ex_11 hE
    have u_x_11 := congrArg Int32.toInt ex_11
    have r_x_11 := rg_ld (MB_w hI) hin_10 ex_11
    refine lv_iadd hx hb dX11_mayNext_33 ?_
    refine lv_topi (fun x_12 ex_12 => ?_)
    have hE := bd_at ex_12 hE
    try have t_x_12 := ti_add ex_12 (by omega) (by omega)
    refine lv_icmp_ge (tgt := 41) hx hb dX11_mayNext_34 (by decide) (fun c_13 => ?_) (fun c_13 => ?_)
    · have t_c_13 := Int32.le_iff_toInt_le.mp c_13
      have hE := hE.trans (if_pos c_13)
      refine lv_iconst (v := 0) hx hb dX11_mayNext_41 (by decide) ?_
      exact W.zret (v := 0) hx hb hr rfl (fun t ht hW => ⟨⟨0, (), rfl, ⟨⟨by decide, fun h9 => absurd rfl h9⟩, by rw [← hRES, hE]⟩, ⟨mi, ma, ⟨⟨hI, fun k hk => (hFI k hk).trans (by rw [hmi0]), fun k hk => (hFA k hk).trans (by rw [hma0])⟩, by rw [← hRES, hE], by rw [← hRES, hE]⟩, by rw [ht]; exact hP, va_K.moved hW.alike hK, hD⟩⟩, hS.F ht⟩) hS.2.2 dX11_mayNext_42
    · have t_c_13 := Int32.lt_iff_toInt_lt.mp (Int32.not_le.mp c_13)
      have hE := hE.trans (if_neg c_13)
      refine lv_iconst (v := 1) hx hb dX11_mayNext_37 (by decide) ?_
      refine lv_goto (tgt := 42) hx hb dX11_mayNext_38 (by decide) ?_
      exact W.zret (v := 1) hx hb hr rfl (fun t ht hW => ⟨⟨1, (), rfl, ⟨⟨by decide, fun h9 => ⟨by rw [← ex_2]; omega, by rw [← ex_7, ← ex_9]; omega⟩⟩, by rw [← hRES, hE]⟩, ⟨mi, ma, ⟨⟨hI, fun k hk => (hFI k hk).trans (by rw [hmi0]), fun k hk => (hFA k hk).trans (by rw [hma0])⟩, by rw [← hRES, hE], by rw [← hRES, hE]⟩, by rw [ht]; exact hP, va_K.moved hW.alike hK, hD⟩⟩, hS.F ht⟩) hS.2.2 dX11_mayNext_42
