set_option maxRecDepth 100000 in
def xc_place_2 (ov : Nat → Int32) (tf : Nat → Int32) (n : Int32) : Nat → Int32 → Int32 → Int32
  | 0, i1, i2 => (0)
  | fu + 1, i1, i2 => bd (ov 10) (fun v1 => (if v1 ≤ i2 then (((-1) : Int32)) else (if (64 : Int32) ≤ i2 then (((-1) : Int32)) else bd (tf i2.toNatClampNeg) (fun v2 => (if v2 = i1 then (i2) else bd (i2 + 1) (fun v3 => xc_place_2 ov tf n fu i1 v3))))))
set_option maxRecDepth 100000 in
def xc_place (ov : Nat → Int32) (tf : Nat → Int32) (n : Int32) : Int32 := xc_place_2 ov tf n (((64 : Int32).toInt - (0 : Int32).toInt).toNat + 1) n (0 : Int32)
set_option maxHeartbeats 4000000 in
set_option maxRecDepth 100000 in
theorem s_place (l : Launch) (D : va_G) (cI cJ cZ cO : ClassId) (sz : Nat) (r0 r1 r2 r3 r4 r5 : Nat) (ov tf : Nat → Int32) (ol : Option Nat) (n : Int32) : Met l yX7_placeOfTold (wa yX7_placeOfTold cX7_placeOfTold 3 (some .int)) ({ frames := 0, cells := 0, slots := 0, locals := 0 }) (va_Pc [.ref r0, .int n] (pw_s D cI cJ cZ cO sz [(r0, rdC ov (va_rf ol) r1 r2 r3 r4 r5), (r5, tlC cI tf)])) (va_Qi (fun (r : Int32) (_ : Unit) => ((True) ∧ r = (xc_place ov tf n))) (fun (_ : Unit) (t : State) => pw_t D cI cJ cZ cO (va_A [(r0, rdC ov (va_rf ol) r1 r2 r3 r4 r5), (r5, tlC cI tf)] sz) [(r0, rdC ov (va_rf ol) r1 r2 r3 r4 r5), (r5, tlC cI tf)] t) (va_A [(r0, rdC ov (va_rf ol) r1 r2 r3 r4 r5), (r5, tlC cI tf)] sz)) 0 0 (va_A [(r0, rdC ov (va_rf ol) r1 r2 r3 r4 r5), (r5, tlC cI tf)] sz) := by
  refine Met.ofW (cc := cX7_placeOfTold) (maxL := 3) (ret := (some .int)) (by decide) rfl ?_
  intro p e s m args below meth c s₁ B hml hv
  obtain ⟨rfl, hsz, hP, hK, hD0, hN⟩ := hv
  have hx := B.exec
  have hb := B.bytes
  have hr := B.returns
  have hts := atoms_spec (ws := (wa yX7_placeOfTold cX7_placeOfTold 3 (some .int))) B.pre
  have ha : ∀ w ∈ wsL_law, w.before _ s = true := fun w h => hts w (List.mem_cons_of_mem _ h)
  have hown : s.vm.findClass RX7 = some m.cls := findClass_of_methodNamed B.named
  have hlocks := B.notSynchronized
  subst hsz
  have hD := hD0.self (sz := s.heap.size)
  generalize hAe : va_A [(r0, rdC ov (va_rf ol) r1 r2 r3 r4 r5), (r5, tlC cI tf)] s.heap.size = A at hD ⊢
  have hA : ∀ q : Nat, s.heap.size ≤ q → A q := fun q h => by rw [← hAe]; exact Or.inr h
  have hS : va_S A s.heap s.heap [] := va_S.rf
  have hP : va_P D vwCl [(r0, rdC ov (va_rf ol) r1 r2 r3 r4 r5), (r5, tlC cI tf)] s.heap := hP
  have hl := lv_entry ([.ref r0, .int n]) (n := 3) (Nat.le_of_ble_eq_true rfl)
  rw [lg_entry_eq]
  generalize (lg_sl ([.ref r0, .int n]) ++ List.replicate (3 - (lg_sl ([.ref r0, .int n])).length) Slot.unset).toArray = ls at hl ⊢
  have hl : lv_has ls 3 [(0, .ref r0), (1, .int n)] := hl
  obtain ⟨QP, hQP⟩ : ∃ y : State → Prop, y = (MQ below (va_Qi (fun (r : Int32) (_ : Unit) => ((True) ∧ r = (xc_place ov tf n))) (fun (_ : Unit) (t : State) => pw_t D cI cJ cZ cO A [(r0, rdC ov (va_rf ol) r1 r2 r3 r4 r5), (r5, tlC cI tf)] t) A) #[(.ref r0 : Value), (.int n : Value)] s 0 0 A) := ⟨_, rfl⟩
  obtain ⟨RES, hRES⟩ : ∃ y, y = (xc_place ov tf n) := ⟨_, rfl⟩
  have L_2 : ∀ (n_2 : Nat), ∀ (H : Heap) (locs : List Loc), va_P D vwCl [(r0, rdC ov (va_rf ol) r1 r2 r3 r4 r5), (r5, tlC cI tf)] H → va_D A [(r0, rdC ov (va_rf ol) r1 r2 r3 r4 r5), (r5, tlC cI tf)] → va_S A s.heap H locs → ∀ (i1 : Int32) (i2 : Int32) (ls : Array Slot), lv_has ls 3 [(0, .ref r0), (1, .int i1), (2, .int i2)] → RES = xc_place_2 ov tf n n_2 i1 i2 → 0 ≤ i2 →  ((64 : Int32).toInt - i2.toInt).toNat < n_2 → W p l e ({ frames := 0, cells := 0, slots := 0, locals := 0 }) s m #[(.ref r0 : Value), (.int n : Value)] below meth c H locs 0 0 QP (F0 m 2 ls []) := by
    intro n_2
    induction n_2 with
    | zero => intro  H locs hP hD hS i1 i2 ls hl hE hv_2 hm; exact absurd hm (Nat.not_lt_zero _)
    | succ n_2 ih_2 =>
      intro  H locs hP hD hS i1 i2 ls hl hE hv_2 hm_2
      rw [xc_place_2] at hE
      refine lv_iload_n hx hb dX7_placeOfTold_2 rfl (lv_at hl 2 rfl) ?_
      refine lv_aload_n hx hb dX7_placeOfTold_3 rfl (lv_at hl 0 rfl) ?_
      refine va_get (D := D) (ci := 7) (v := .int (ov 10)) (C := RX7) (T := TX7) (N := 15) hx hb ha inlX7 hown hK hP 0 rfl rfl 10 (by decide) (ha _ kf_X7_47) (fun _ h9 => h9) rfl dX7_placeOfTold_4 ?_
      refine lv_topi (fun x_7 ex_7 => ?_)
      have hE := bd_at ex_7 hE
      refine lv_icmp_ge (tgt := 37) hx hb dX7_placeOfTold_7 (by decide) (fun c_8 => ?_) (fun c_8 => ?_)
      · have hE := hE.trans (if_pos c_8)
        refine lv_iconst (v := (-1)) hx hb dX7_placeOfTold_37 (by decide) ?_
        rw [hQP]
        have hP9 := hP.sub (ws' := [(r0, rdC ov (va_rf ol) r1 r2 r3 r4 r5), (r5, tlC cI tf)]) [0, 1] rfl
        have hD9 := hD.sub (ws' := [(r0, rdC ov (va_rf ol) r1 r2 r3 r4 r5), (r5, tlC cI tf)]) [0, 1] (by decide) rfl
        exact W.iret (v := (-1)) hx hb hr (fun t ht hW => ⟨⟨(-1), (), rfl, ⟨trivial, (by rw [← hRES, hE])⟩, ⟨by rw [ht]; exact hP9, va_K.moved hW.alike hK, hD9⟩⟩, hS.F ht⟩) hS.2.2 dX7_placeOfTold_38
      · have hE := hE.trans (if_neg c_8)
        refine lv_iload_n hx hb dX7_placeOfTold_10 rfl (lv_at hl 2 rfl) ?_
        refine lv_aload_n hx hb dX7_placeOfTold_11 rfl (lv_at hl 0 rfl) ?_
        refine va_get (D := D) (ci := 7) (v := .ref r5) (C := RX7) (T := TX7) (N := 15) hx hb ha inlX7 hown hK hP 0 rfl rfl 9 (by decide) (ha _ kf_X7_40) (fun _ h9 => h9) rfl dX7_placeOfTold_12 ?_
        refine va_alen hx hb hK hP 1 0 (v := 64) rfl rfl (show Int32.ofNat 64 = 64 by decide) dX7_placeOfTold_15 ?_
        refine lv_icmp_ge (tgt := 37) hx hb dX7_placeOfTold_16 (by decide) (fun c_9 => ?_) (fun c_9 => ?_)
        · have hE := hE.trans (if_pos c_9)
          refine lv_iconst (v := (-1)) hx hb dX7_placeOfTold_37 (by decide) ?_
          rw [hQP]
          have hP9 := hP.sub (ws' := [(r0, rdC ov (va_rf ol) r1 r2 r3 r4 r5), (r5, tlC cI tf)]) [0, 1] rfl
          have hD9 := hD.sub (ws' := [(r0, rdC ov (va_rf ol) r1 r2 r3 r4 r5), (r5, tlC cI tf)]) [0, 1] (by decide) rfl
          exact W.iret (v := (-1)) hx hb hr (fun t ht hW => ⟨⟨(-1), (), rfl, ⟨trivial, (by rw [← hRES, hE])⟩, ⟨by rw [ht]; exact hP9, va_K.moved hW.alike hK, hD9⟩⟩, hS.F ht⟩) hS.2.2 dX7_placeOfTold_38
        · have hE := hE.trans (if_neg c_9)
          refine lv_aload_n hx hb dX7_placeOfTold_19 rfl (lv_at hl 0 rfl) ?_
          refine va_get (D := D) (ci := 7) (v := .ref r5) (C := RX7) (T := TX7) (N := 15) hx hb ha inlX7 hown hK hP 0 rfl rfl 9 (by decide) (ha _ kf_X7_40) (fun _ h9 => h9) rfl dX7_placeOfTold_20 ?_
          refine lv_iload_n hx hb dX7_placeOfTold_23 rfl (lv_at hl 2 rfl) ?_
          refine va_iald hx hb hK hP 1 0 rfl rfl (sw_in (k := 64) (by decide) hv_2 (by rw [← (show (64 : Int32) = nI 64 by decide)]; exact c_9)) dX7_placeOfTold_24 ?_
          refine lv_topi (fun x_10 ex_10 => ?_)
          have hE := bd_at ex_10 hE
          refine lv_iload_n hx hb dX7_placeOfTold_25 rfl (lv_at hl 1 rfl) ?_
          refine lv_icmp_ne (tgt := 31) hx hb dX7_placeOfTold_26 (by decide) (fun c_11 => ?_) (fun c_11 => ?_)
          · have hE := hE.trans (if_neg c_11)
            obtain ⟨x_12, ex_12⟩ : ∃ y : Int32, y = i2 + 1 := ⟨_, rfl⟩
            have hE := bd_at ex_12 hE
            refine lv_iinc (v := x_12) (lv' := [(2, .int x_12), (0, .ref r0), (1, .int i1)]) hx hb dX7_placeOfTold_31 hl (k := 2) rfl (by rw [ex_12]; rfl) (by decide) rfl (fun ls hl => ?_)
            refine lv_goto (tgt := 2) hx hb dX7_placeOfTold_34 (by decide) ?_
            exact ih_2  _ _ hP hD hS i1 x_12 _ (lv_sub hl [1, 2, 0] rfl) hE (sw_ge1 (k := 64) (by decide) hv_2 (by rw [← (show (64 : Int32) = nI 64 by decide)]; exact c_9) ex_12) (Nat.lt_of_lt_of_le (sw_up (b := 64) c_9 ex_12) (Nat.le_of_lt_succ hm_2))
          · have hE := hE.trans (if_pos c_11)
            refine lv_iload_n hx hb dX7_placeOfTold_29 rfl (lv_at hl 2 rfl) ?_
            rw [hQP]
            have hP9 := hP.sub (ws' := [(r0, rdC ov (va_rf ol) r1 r2 r3 r4 r5), (r5, tlC cI tf)]) [0, 1] rfl
            have hD9 := hD.sub (ws' := [(r0, rdC ov (va_rf ol) r1 r2 r3 r4 r5), (r5, tlC cI tf)]) [0, 1] (by decide) rfl
            exact W.iret (v := i2) hx hb hr (fun t ht hW => ⟨⟨i2, (), rfl, ⟨trivial, (by rw [← hRES, hE])⟩, ⟨by rw [ht]; exact hP9, va_K.moved hW.alike hK, hD9⟩⟩, hS.F ht⟩) hS.2.2 dX7_placeOfTold_30
  rw [hQP] at L_2
  -- from the entry
  have hE := hRES
  unfold xc_place at hE
  refine lv_iconst (v := 0) hx hb dX7_placeOfTold_0 (by decide) ?_
  refine lv_istore_n (lv' := [(2, .int 0), (0, .ref r0), (1, .int n)]) hx hb dX7_placeOfTold_1 rfl hl (by decide) rfl (fun ls hl => ?_)
  exact L_2 (((64 : Int32).toInt - (0 : Int32).toInt).toNat + 1)  _ _ hP hD hS n 0 _ (lv_sub hl [1, 2, 0] rfl) hE (by decide) (Nat.lt_succ_self _)
